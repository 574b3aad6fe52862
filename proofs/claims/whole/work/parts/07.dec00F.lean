theorem dF_init_0 : decode (am_by jF_init) 0 = .ok (.aload_n 0, 1) := by decide +kernel
theorem dF_init_1 : decode (am_by jF_init) 1 = .ok (.invokespecial 1, 3) := by decide +kernel
theorem dF_init_4 : decode (am_by jF_init) 4 = .ok (.aload_n 0, 1) := by decide +kernel
theorem dF_init_5 : decode (am_by jF_init) 5 = .ok (.iconst 2, 1) := by decide +kernel
theorem dF_init_6 : decode (am_by jF_init) 6 = .ok (.anewarray 9, 3) := by decide +kernel
theorem dF_init_9 : decode (am_by jF_init) 9 = .ok (.putfield 11, 3) := by decide +kernel
theorem dF_init_12 : decode (am_by jF_init) 12 = .ok (.iconst 0, 1) := by decide +kernel
theorem dF_init_13 : decode (am_by jF_init) 13 = .ok (.istore_n 1, 1) := by decide +kernel
theorem dF_init_14 : decode (am_by jF_init) 14 = .ok (.iload_n 1, 1) := by decide +kernel
theorem dF_init_15 : decode (am_by jF_init) 15 = .ok (.iconst 2, 1) := by decide +kernel
theorem dF_init_16 : decode (am_by jF_init) 16 = .ok (.if_icmp .ge 22, 3) := by decide +kernel
theorem dF_init_19 : decode (am_by jF_init) 19 = .ok (.aload_n 0, 1) := by decide +kernel
theorem dF_init_20 : decode (am_by jF_init) 20 = .ok (.getfield 11, 3) := by decide +kernel
theorem dF_init_23 : decode (am_by jF_init) 23 = .ok (.iload_n 1, 1) := by decide +kernel
theorem dF_init_24 : decode (am_by jF_init) 24 = .ok (.new 9, 3) := by decide +kernel
theorem dF_init_27 : decode (am_by jF_init) 27 = .ok (.dup, 1) := by decide +kernel
theorem dF_init_28 : decode (am_by jF_init) 28 = .ok (.invokespecial 15, 3) := by decide +kernel
theorem dF_init_31 : decode (am_by jF_init) 31 = .ok (.aastore, 1) := by decide +kernel
theorem dF_init_32 : decode (am_by jF_init) 32 = .ok (.iinc 1 1, 3) := by decide +kernel
theorem dF_init_35 : decode (am_by jF_init) 35 = .ok (.goto (-21), 3) := by decide +kernel
theorem dF_init_38 : decode (am_by jF_init) 38 = .ok (.aload_n 0, 1) := by decide +kernel
theorem dF_init_39 : decode (am_by jF_init) 39 = .ok (.new 16, 3) := by decide +kernel
theorem dF_init_42 : decode (am_by jF_init) 42 = .ok (.dup, 1) := by decide +kernel
theorem dF_init_43 : decode (am_by jF_init) 43 = .ok (.invokespecial 18, 3) := by decide +kernel
theorem dF_init_46 : decode (am_by jF_init) 46 = .ok (.putfield 19, 3) := by decide +kernel
theorem dF_init_49 : decode (am_by jF_init) 49 = .ok (.aload_n 0, 1) := by decide +kernel
theorem dF_init_50 : decode (am_by jF_init) 50 = .ok (.new 23, 3) := by decide +kernel
theorem dF_init_53 : decode (am_by jF_init) 53 = .ok (.dup, 1) := by decide +kernel
theorem dF_init_54 : decode (am_by jF_init) 54 = .ok (.invokespecial 25, 3) := by decide +kernel
theorem dF_init_57 : decode (am_by jF_init) 57 = .ok (.putfield 26, 3) := by decide +kernel
theorem dF_init_60 : decode (am_by jF_init) 60 = .ok (.aload_n 0, 1) := by decide +kernel
theorem dF_init_61 : decode (am_by jF_init) 61 = .ok (.new 30, 3) := by decide +kernel
theorem dF_init_64 : decode (am_by jF_init) 64 = .ok (.dup, 1) := by decide +kernel
theorem dF_init_65 : decode (am_by jF_init) 65 = .ok (.invokespecial 32, 3) := by decide +kernel
theorem dF_init_68 : decode (am_by jF_init) 68 = .ok (.putfield 33, 3) := by decide +kernel
theorem dF_init_71 : decode (am_by jF_init) 71 = .ok (.aload_n 0, 1) := by decide +kernel
theorem dF_init_72 : decode (am_by jF_init) 72 = .ok (.new 37, 3) := by decide +kernel
theorem dF_init_75 : decode (am_by jF_init) 75 = .ok (.dup, 1) := by decide +kernel
theorem dF_init_76 : decode (am_by jF_init) 76 = .ok (.invokespecial 39, 3) := by decide +kernel
theorem dF_init_79 : decode (am_by jF_init) 79 = .ok (.putfield 40, 3) := by decide +kernel
theorem dF_init_82 : decode (am_by jF_init) 82 = .ok (.aload_n 0, 1) := by decide +kernel
theorem dF_init_83 : decode (am_by jF_init) 83 = .ok (.new 37, 3) := by decide +kernel
theorem dF_init_86 : decode (am_by jF_init) 86 = .ok (.dup, 1) := by decide +kernel
theorem dF_init_87 : decode (am_by jF_init) 87 = .ok (.invokespecial 39, 3) := by decide +kernel
theorem dF_init_90 : decode (am_by jF_init) 90 = .ok (.putfield 44, 3) := by decide +kernel
theorem dF_init_93 : decode (am_by jF_init) 93 = .ok (.aload_n 0, 1) := by decide +kernel
theorem dF_init_94 : decode (am_by jF_init) 94 = .ok (.iconst 0, 1) := by decide +kernel
theorem dF_init_95 : decode (am_by jF_init) 95 = .ok (.putfield 47, 3) := by decide +kernel
theorem dF_init_98 : decode (am_by jF_init) 98 = .ok (.return_, 1) := by decide +kernel
theorem dF_write_0 : decode (am_by jF_write) 0 = .ok (.iload_n 1, 1) := by decide +kernel
theorem dF_write_1 : decode (am_by jF_write) 1 = .ok (.iconst 2, 1) := by decide +kernel
theorem dF_write_2 : decode (am_by jF_write) 2 = .ok (.invokestatic 51, 3) := by decide +kernel
theorem dF_write_5 : decode (am_by jF_write) 5 = .ok (.ifCond .ne 5, 3) := by decide +kernel
theorem dF_write_8 : decode (am_by jF_write) 8 = .ok (.iconst 0, 1) := by decide +kernel
theorem dF_write_9 : decode (am_by jF_write) 9 = .ok (.ireturn, 1) := by decide +kernel
theorem dF_write_10 : decode (am_by jF_write) 10 = .ok (.aload_n 0, 1) := by decide +kernel
theorem dF_write_11 : decode (am_by jF_write) 11 = .ok (.iload_n 1, 1) := by decide +kernel
theorem dF_write_12 : decode (am_by jF_write) 12 = .ok (.putfield 47, 3) := by decide +kernel
theorem dF_write_15 : decode (am_by jF_write) 15 = .ok (.iconst 1, 1) := by decide +kernel
theorem dF_write_16 : decode (am_by jF_write) 16 = .ok (.ireturn, 1) := by decide +kernel
theorem dF_branch_0 : decode (am_by jF_branch) 0 = .ok (.aload_n 0, 1) := by decide +kernel
theorem dF_branch_1 : decode (am_by jF_branch) 1 = .ok (.getfield 11, 3) := by decide +kernel
theorem dF_branch_4 : decode (am_by jF_branch) 4 = .ok (.iconst 1, 1) := by decide +kernel
theorem dF_branch_5 : decode (am_by jF_branch) 5 = .ok (.aaload, 1) := by decide +kernel
theorem dF_branch_6 : decode (am_by jF_branch) 6 = .ok (.aload_n 0, 1) := by decide +kernel
theorem dF_branch_7 : decode (am_by jF_branch) 7 = .ok (.getfield 11, 3) := by decide +kernel
theorem dF_branch_10 : decode (am_by jF_branch) 10 = .ok (.iconst 0, 1) := by decide +kernel
theorem dF_branch_11 : decode (am_by jF_branch) 11 = .ok (.aaload, 1) := by decide +kernel
theorem dF_branch_12 : decode (am_by jF_branch) 12 = .ok (.invokevirtual 55, 3) := by decide +kernel
theorem dF_branch_15 : decode (am_by jF_branch) 15 = .ok (.aload_n 0, 1) := by decide +kernel
theorem dF_branch_16 : decode (am_by jF_branch) 16 = .ok (.iconst 1, 1) := by decide +kernel
theorem dF_branch_17 : decode (am_by jF_branch) 17 = .ok (.putfield 47, 3) := by decide +kernel
theorem dF_branch_20 : decode (am_by jF_branch) 20 = .ok (.aload_n 0, 1) := by decide +kernel
theorem dF_branch_21 : decode (am_by jF_branch) 21 = .ok (.getfield 11, 3) := by decide +kernel
theorem dF_branch_24 : decode (am_by jF_branch) 24 = .ok (.iconst 1, 1) := by decide +kernel
theorem dF_branch_25 : decode (am_by jF_branch) 25 = .ok (.aaload, 1) := by decide +kernel
theorem dF_branch_26 : decode (am_by jF_branch) 26 = .ok (.invokevirtual 59, 3) := by decide +kernel
theorem dF_branch_29 : decode (am_by jF_branch) 29 = .ok (.ireturn, 1) := by decide +kernel
theorem dF_method_0 : decode (am_by jF_method) 0 = .ok (.iload_n 1, 1) := by decide +kernel
theorem dF_method_1 : decode (am_by jF_method) 1 = .ok (.bipush 6, 2) := by decide +kernel
theorem dF_method_3 : decode (am_by jF_method) 3 = .ok (.invokestatic 51, 3) := by decide +kernel
theorem dF_method_6 : decode (am_by jF_method) 6 = .ok (.ifCond .eq 11, 3) := by decide +kernel
theorem dF_method_9 : decode (am_by jF_method) 9 = .ok (.iload_n 2, 1) := by decide +kernel
theorem dF_method_10 : decode (am_by jF_method) 10 = .ok (.iconst 4, 1) := by decide +kernel
theorem dF_method_11 : decode (am_by jF_method) 11 = .ok (.invokestatic 51, 3) := by decide +kernel
theorem dF_method_14 : decode (am_by jF_method) 14 = .ok (.ifCond .ne 5, 3) := by decide +kernel
theorem dF_method_17 : decode (am_by jF_method) 17 = .ok (.iconst 0, 1) := by decide +kernel
theorem dF_method_18 : decode (am_by jF_method) 18 = .ok (.ireturn, 1) := by decide +kernel
theorem dF_method_19 : decode (am_by jF_method) 19 = .ok (.aload_n 0, 1) := by decide +kernel
theorem dF_method_20 : decode (am_by jF_method) 20 = .ok (.iload_n 1, 1) := by decide +kernel
theorem dF_method_21 : decode (am_by jF_method) 21 = .ok (.invokevirtual 63, 3) := by decide +kernel
theorem dF_method_24 : decode (am_by jF_method) 24 = .ok (.iload_n 2, 1) := by decide +kernel
theorem dF_method_25 : decode (am_by jF_method) 25 = .ok (.iload_n 3, 1) := by decide +kernel
theorem dF_method_26 : decode (am_by jF_method) 26 = .ok (.invokevirtual 67, 3) := by decide +kernel
theorem dF_method_29 : decode (am_by jF_method) 29 = .ok (.iconst 1, 1) := by decide +kernel
theorem dF_method_30 : decode (am_by jF_method) 30 = .ok (.ireturn, 1) := by decide +kernel
theorem dF_add_0 : decode (am_by jF_add) 0 = .ok (.iload_n 1, 1) := by decide +kernel
theorem dF_add_1 : decode (am_by jF_add) 1 = .ok (.bipush 6, 2) := by decide +kernel
theorem dF_add_3 : decode (am_by jF_add) 3 = .ok (.invokestatic 51, 3) := by decide +kernel
theorem dF_add_6 : decode (am_by jF_add) 6 = .ok (.ifCond .eq 13, 3) := by decide +kernel
theorem dF_add_9 : decode (am_by jF_add) 9 = .ok (.iload_n 2, 1) := by decide +kernel
theorem dF_add_10 : decode (am_by jF_add) 10 = .ok (.iload_n 3, 1) := by decide +kernel
theorem dF_add_11 : decode (am_by jF_add) 11 = .ok (.iload 4, 2) := by decide +kernel
theorem dF_add_13 : decode (am_by jF_add) 13 = .ok (.invokestatic 73, 3) := by decide +kernel
theorem dF_add_16 : decode (am_by jF_add) 16 = .ok (.ifCond .ne 5, 3) := by decide +kernel
theorem dF_add_19 : decode (am_by jF_add) 19 = .ok (.iconst (-1), 1) := by decide +kernel
theorem dF_add_20 : decode (am_by jF_add) 20 = .ok (.ireturn, 1) := by decide +kernel
theorem dF_add_21 : decode (am_by jF_add) 21 = .ok (.aload_n 0, 1) := by decide +kernel
theorem dF_add_22 : decode (am_by jF_add) 22 = .ok (.iload_n 1, 1) := by decide +kernel
theorem dF_add_23 : decode (am_by jF_add) 23 = .ok (.invokevirtual 63, 3) := by decide +kernel
theorem dF_add_26 : decode (am_by jF_add) 26 = .ok (.astore 5, 2) := by decide +kernel
theorem dF_add_28 : decode (am_by jF_add) 28 = .ok (.aload 5, 2) := by decide +kernel
theorem dF_add_30 : decode (am_by jF_add) 30 = .ok (.getfield 77, 3) := by decide +kernel
theorem dF_add_33 : decode (am_by jF_add) 33 = .ok (.bipush 60, 2) := by decide +kernel
theorem dF_add_35 : decode (am_by jF_add) 35 = .ok (.if_icmp .lt 6, 3) := by decide +kernel
theorem dF_add_38 : decode (am_by jF_add) 38 = .ok (.bipush (-3), 2) := by decide +kernel
theorem dF_add_40 : decode (am_by jF_add) 40 = .ok (.ireturn, 1) := by decide +kernel
theorem dF_add_41 : decode (am_by jF_add) 41 = .ok (.aload 5, 2) := by decide +kernel
theorem dF_add_43 : decode (am_by jF_add) 43 = .ok (.aload 5, 2) := by decide +kernel
theorem dF_add_45 : decode (am_by jF_add) 45 = .ok (.getfield 77, 3) := by decide +kernel
theorem dF_add_48 : decode (am_by jF_add) 48 = .ok (.iload_n 2, 1) := by decide +kernel
theorem dF_add_49 : decode (am_by jF_add) 49 = .ok (.iload_n 3, 1) := by decide +kernel
theorem dF_add_50 : decode (am_by jF_add) 50 = .ok (.iload 4, 2) := by decide +kernel
theorem dF_add_52 : decode (am_by jF_add) 52 = .ok (.invokevirtual 80, 3) := by decide +kernel
theorem dF_add_55 : decode (am_by jF_add) 55 = .ok (.aload 5, 2) := by decide +kernel
theorem dF_add_57 : decode (am_by jF_add) 57 = .ok (.dup, 1) := by decide +kernel
theorem dF_add_58 : decode (am_by jF_add) 58 = .ok (.getfield 77, 3) := by decide +kernel
theorem dF_add_61 : decode (am_by jF_add) 61 = .ok (.iconst 1, 1) := by decide +kernel
theorem dF_add_62 : decode (am_by jF_add) 62 = .ok (.iadd, 1) := by decide +kernel
theorem dF_add_63 : decode (am_by jF_add) 63 = .ok (.putfield 77, 3) := by decide +kernel
theorem dF_add_66 : decode (am_by jF_add) 66 = .ok (.aload 5, 2) := by decide +kernel
theorem dF_add_68 : decode (am_by jF_add) 68 = .ok (.getfield 77, 3) := by decide +kernel
theorem dF_add_71 : decode (am_by jF_add) 71 = .ok (.ireturn, 1) := by decide +kernel
theorem dF_change_0 : decode (am_by jF_change) 0 = .ok (.iload_n 1, 1) := by decide +kernel
theorem dF_change_1 : decode (am_by jF_change) 1 = .ok (.bipush 6, 2) := by decide +kernel
theorem dF_change_3 : decode (am_by jF_change) 3 = .ok (.invokestatic 51, 3) := by decide +kernel
theorem dF_change_6 : decode (am_by jF_change) 6 = .ok (.ifCond .eq 14, 3) := by decide +kernel
theorem dF_change_9 : decode (am_by jF_change) 9 = .ok (.iload_n 3, 1) := by decide +kernel
theorem dF_change_10 : decode (am_by jF_change) 10 = .ok (.iload 4, 2) := by decide +kernel
theorem dF_change_12 : decode (am_by jF_change) 12 = .ok (.iload 5, 2) := by decide +kernel
theorem dF_change_14 : decode (am_by jF_change) 14 = .ok (.invokestatic 73, 3) := by decide +kernel
theorem dF_change_17 : decode (am_by jF_change) 17 = .ok (.ifCond .ne 5, 3) := by decide +kernel
theorem dF_change_20 : decode (am_by jF_change) 20 = .ok (.iconst 0, 1) := by decide +kernel
theorem dF_change_21 : decode (am_by jF_change) 21 = .ok (.ireturn, 1) := by decide +kernel
theorem dF_change_22 : decode (am_by jF_change) 22 = .ok (.aload_n 0, 1) := by decide +kernel
theorem dF_change_23 : decode (am_by jF_change) 23 = .ok (.iload_n 1, 1) := by decide +kernel
theorem dF_change_24 : decode (am_by jF_change) 24 = .ok (.invokevirtual 63, 3) := by decide +kernel
theorem dF_change_27 : decode (am_by jF_change) 27 = .ok (.astore 6, 2) := by decide +kernel
theorem dF_change_29 : decode (am_by jF_change) 29 = .ok (.iload_n 2, 1) := by decide +kernel
theorem dF_change_30 : decode (am_by jF_change) 30 = .ok (.aload 6, 2) := by decide +kernel
theorem dF_change_32 : decode (am_by jF_change) 32 = .ok (.getfield 77, 3) := by decide +kernel
theorem dF_change_35 : decode (am_by jF_change) 35 = .ok (.invokestatic 51, 3) := by decide +kernel
theorem dF_change_38 : decode (am_by jF_change) 38 = .ok (.ifCond .ne 5, 3) := by decide +kernel
theorem dF_change_41 : decode (am_by jF_change) 41 = .ok (.iconst 0, 1) := by decide +kernel
theorem dF_change_42 : decode (am_by jF_change) 42 = .ok (.ireturn, 1) := by decide +kernel
theorem dF_change_43 : decode (am_by jF_change) 43 = .ok (.aload 6, 2) := by decide +kernel
theorem dF_change_45 : decode (am_by jF_change) 45 = .ok (.iload_n 2, 1) := by decide +kernel
theorem dF_change_46 : decode (am_by jF_change) 46 = .ok (.iload_n 3, 1) := by decide +kernel
theorem dF_change_47 : decode (am_by jF_change) 47 = .ok (.iload 4, 2) := by decide +kernel
theorem dF_change_49 : decode (am_by jF_change) 49 = .ok (.iload 5, 2) := by decide +kernel
theorem dF_change_51 : decode (am_by jF_change) 51 = .ok (.invokevirtual 80, 3) := by decide +kernel
theorem dF_change_54 : decode (am_by jF_change) 54 = .ok (.iconst 1, 1) := by decide +kernel
theorem dF_change_55 : decode (am_by jF_change) 55 = .ok (.ireturn, 1) := by decide +kernel
theorem dF_row_0 : decode (am_by jF_row) 0 = .ok (.iload_n 2, 1) := by decide +kernel
theorem dF_row_1 : decode (am_by jF_row) 1 = .ok (.bipush 60, 2) := by decide +kernel
theorem dF_row_3 : decode (am_by jF_row) 3 = .ok (.invokestatic 51, 3) := by decide +kernel
theorem dF_row_6 : decode (am_by jF_row) 6 = .ok (.ifCond .eq 17, 3) := by decide +kernel
theorem dF_row_9 : decode (am_by jF_row) 9 = .ok (.iload 4, 2) := by decide +kernel
theorem dF_row_11 : decode (am_by jF_row) 11 = .ok (.bipush 60, 2) := by decide +kernel
theorem dF_row_13 : decode (am_by jF_row) 13 = .ok (.invokestatic 51, 3) := by decide +kernel
theorem dF_row_16 : decode (am_by jF_row) 16 = .ok (.ifCond .eq 7, 3) := by decide +kernel
theorem dF_row_19 : decode (am_by jF_row) 19 = .ok (.iconst 1, 1) := by decide +kernel
theorem dF_row_20 : decode (am_by jF_row) 20 = .ok (.goto 4, 3) := by decide +kernel
theorem dF_row_23 : decode (am_by jF_row) 23 = .ok (.iconst 0, 1) := by decide +kernel
theorem dF_row_24 : decode (am_by jF_row) 24 = .ok (.istore 6, 2) := by decide +kernel
theorem dF_row_26 : decode (am_by jF_row) 26 = .ok (.iload_n 3, 1) := by decide +kernel
theorem dF_row_27 : decode (am_by jF_row) 27 = .ok (.iload_n 2, 1) := by decide +kernel
theorem dF_row_28 : decode (am_by jF_row) 28 = .ok (.if_icmp .le 13, 3) := by decide +kernel
theorem dF_row_31 : decode (am_by jF_row) 31 = .ok (.iload_n 3, 1) := by decide +kernel
theorem dF_row_32 : decode (am_by jF_row) 32 = .ok (.bipush 60, 2) := by decide +kernel
theorem dF_row_34 : decode (am_by jF_row) 34 = .ok (.if_icmp .gt 7, 3) := by decide +kernel
theorem dF_row_37 : decode (am_by jF_row) 37 = .ok (.iconst 1, 1) := by decide +kernel
theorem dF_row_38 : decode (am_by jF_row) 38 = .ok (.goto 4, 3) := by decide +kernel
theorem dF_row_41 : decode (am_by jF_row) 41 = .ok (.iconst 0, 1) := by decide +kernel
theorem dF_row_42 : decode (am_by jF_row) 42 = .ok (.istore 7, 2) := by decide +kernel
theorem dF_row_44 : decode (am_by jF_row) 44 = .ok (.iload_n 1, 1) := by decide +kernel
theorem dF_row_45 : decode (am_by jF_row) 45 = .ok (.bipush 6, 2) := by decide +kernel
theorem dF_row_47 : decode (am_by jF_row) 47 = .ok (.invokestatic 51, 3) := by decide +kernel
theorem dF_row_50 : decode (am_by jF_row) 50 = .ok (.ifCond .eq 23, 3) := by decide +kernel
theorem dF_row_53 : decode (am_by jF_row) 53 = .ok (.iload 6, 2) := by decide +kernel
theorem dF_row_55 : decode (am_by jF_row) 55 = .ok (.ifCond .eq 18, 3) := by decide +kernel
theorem dF_row_58 : decode (am_by jF_row) 58 = .ok (.iload 7, 2) := by decide +kernel
theorem dF_row_60 : decode (am_by jF_row) 60 = .ok (.ifCond .eq 13, 3) := by decide +kernel
theorem dF_row_63 : decode (am_by jF_row) 63 = .ok (.iload 5, 2) := by decide +kernel
theorem dF_row_65 : decode (am_by jF_row) 65 = .ok (.bipush 8, 2) := by decide +kernel
theorem dF_row_67 : decode (am_by jF_row) 67 = .ok (.invokestatic 51, 3) := by decide +kernel
theorem dF_row_70 : decode (am_by jF_row) 70 = .ok (.ifCond .ne 5, 3) := by decide +kernel
theorem dF_row_73 : decode (am_by jF_row) 73 = .ok (.iconst (-1), 1) := by decide +kernel
theorem dF_row_74 : decode (am_by jF_row) 74 = .ok (.ireturn, 1) := by decide +kernel
theorem dF_row_75 : decode (am_by jF_row) 75 = .ok (.aload_n 0, 1) := by decide +kernel
theorem dF_row_76 : decode (am_by jF_row) 76 = .ok (.iload_n 1, 1) := by decide +kernel
theorem dF_row_77 : decode (am_by jF_row) 77 = .ok (.invokevirtual 63, 3) := by decide +kernel
theorem dF_row_80 : decode (am_by jF_row) 80 = .ok (.astore 8, 2) := by decide +kernel
theorem dF_row_82 : decode (am_by jF_row) 82 = .ok (.aload 8, 2) := by decide +kernel
theorem dF_row_84 : decode (am_by jF_row) 84 = .ok (.iload_n 2, 1) := by decide +kernel
theorem dF_row_85 : decode (am_by jF_row) 85 = .ok (.iload_n 3, 1) := by decide +kernel
theorem dF_row_86 : decode (am_by jF_row) 86 = .ok (.iload 4, 2) := by decide +kernel
theorem dF_row_88 : decode (am_by jF_row) 88 = .ok (.iload 5, 2) := by decide +kernel
theorem dF_row_90 : decode (am_by jF_row) 90 = .ok (.invokevirtual 84, 3) := by decide +kernel
theorem dF_row_93 : decode (am_by jF_row) 93 = .ok (.ifCond .eq 11, 3) := by decide +kernel
theorem dF_row_96 : decode (am_by jF_row) 96 = .ok (.aload 8, 2) := by decide +kernel
theorem dF_row_98 : decode (am_by jF_row) 98 = .ok (.getfield 88, 3) := by decide +kernel
theorem dF_row_101 : decode (am_by jF_row) 101 = .ok (.goto 5, 3) := by decide +kernel
theorem dF_row_104 : decode (am_by jF_row) 104 = .ok (.bipush (-3), 2) := by decide +kernel
theorem dF_row_106 : decode (am_by jF_row) 106 = .ok (.ireturn, 1) := by decide +kernel
theorem dF_check_0 : decode (am_by jF_check) 0 = .ok (.iload_n 1, 1) := by decide +kernel
theorem dF_check_1 : decode (am_by jF_check) 1 = .ok (.bipush 6, 2) := by decide +kernel
theorem dF_check_3 : decode (am_by jF_check) 3 = .ok (.invokestatic 51, 3) := by decide +kernel
theorem dF_check_6 : decode (am_by jF_check) 6 = .ok (.ifCond .ne 5, 3) := by decide +kernel
theorem dF_check_9 : decode (am_by jF_check) 9 = .ok (.iconst (-1), 1) := by decide +kernel
theorem dF_check_10 : decode (am_by jF_check) 10 = .ok (.ireturn, 1) := by decide +kernel
theorem dF_check_11 : decode (am_by jF_check) 11 = .ok (.aload_n 0, 1) := by decide +kernel
theorem dF_check_12 : decode (am_by jF_check) 12 = .ok (.getfield 19, 3) := by decide +kernel
theorem dF_check_15 : decode (am_by jF_check) 15 = .ok (.aload_n 0, 1) := by decide +kernel
theorem dF_check_16 : decode (am_by jF_check) 16 = .ok (.getfield 11, 3) := by decide +kernel
theorem dF_check_19 : decode (am_by jF_check) 19 = .ok (.aload_n 0, 1) := by decide +kernel
theorem dF_check_20 : decode (am_by jF_check) 20 = .ok (.getfield 47, 3) := by decide +kernel
theorem dF_check_23 : decode (am_by jF_check) 23 = .ok (.aaload, 1) := by decide +kernel
theorem dF_check_24 : decode (am_by jF_check) 24 = .ok (.iload_n 1, 1) := by decide +kernel
theorem dF_check_25 : decode (am_by jF_check) 25 = .ok (.invokevirtual 91, 3) := by decide +kernel
theorem dF_check_28 : decode (am_by jF_check) 28 = .ok (.ifCond .eq 13, 3) := by decide +kernel
theorem dF_check_31 : decode (am_by jF_check) 31 = .ok (.aload_n 0, 1) := by decide +kernel
theorem dF_check_32 : decode (am_by jF_check) 32 = .ok (.getfield 19, 3) := by decide +kernel
theorem dF_check_35 : decode (am_by jF_check) 35 = .ok (.getfield 95, 3) := by decide +kernel
theorem dF_check_38 : decode (am_by jF_check) 38 = .ok (.goto 5, 3) := by decide +kernel
theorem dF_check_41 : decode (am_by jF_check) 41 = .ok (.bipush (-4), 2) := by decide +kernel
theorem dF_check_43 : decode (am_by jF_check) 43 = .ok (.ireturn, 1) := by decide +kernel
theorem dF_kindAt_0 : decode (am_by jF_kindAt) 0 = .ok (.iload_n 3, 1) := by decide +kernel
theorem dF_kindAt_1 : decode (am_by jF_kindAt) 1 = .ok (.iconst (-1), 1) := by decide +kernel
theorem dF_kindAt_2 : decode (am_by jF_kindAt) 2 = .ok (.if_icmp .lt 13, 3) := by decide +kernel
theorem dF_kindAt_5 : decode (am_by jF_kindAt) 5 = .ok (.iload_n 3, 1) := by decide +kernel
theorem dF_kindAt_6 : decode (am_by jF_kindAt) 6 = .ok (.bipush 8, 2) := by decide +kernel
theorem dF_kindAt_8 : decode (am_by jF_kindAt) 8 = .ok (.if_icmp .ge 7, 3) := by decide +kernel
theorem dF_kindAt_11 : decode (am_by jF_kindAt) 11 = .ok (.iconst 1, 1) := by decide +kernel
theorem dF_kindAt_12 : decode (am_by jF_kindAt) 12 = .ok (.goto 4, 3) := by decide +kernel
theorem dF_kindAt_15 : decode (am_by jF_kindAt) 15 = .ok (.iconst 0, 1) := by decide +kernel
theorem dF_kindAt_16 : decode (am_by jF_kindAt) 16 = .ok (.istore 4, 2) := by decide +kernel
theorem dF_kindAt_18 : decode (am_by jF_kindAt) 18 = .ok (.iload_n 3, 1) := by decide +kernel
theorem dF_kindAt_19 : decode (am_by jF_kindAt) 19 = .ok (.bipush 10, 2) := by decide +kernel
theorem dF_kindAt_21 : decode (am_by jF_kindAt) 21 = .ok (.if_icmp .lt 13, 3) := by decide +kernel
theorem dF_kindAt_24 : decode (am_by jF_kindAt) 24 = .ok (.iload_n 3, 1) := by decide +kernel
theorem dF_kindAt_25 : decode (am_by jF_kindAt) 25 = .ok (.bipush 18, 2) := by decide +kernel
theorem dF_kindAt_27 : decode (am_by jF_kindAt) 27 = .ok (.if_icmp .ge 7, 3) := by decide +kernel
theorem dF_kindAt_30 : decode (am_by jF_kindAt) 30 = .ok (.iconst 1, 1) := by decide +kernel
theorem dF_kindAt_31 : decode (am_by jF_kindAt) 31 = .ok (.goto 4, 3) := by decide +kernel
theorem dF_kindAt_34 : decode (am_by jF_kindAt) 34 = .ok (.iconst 0, 1) := by decide +kernel
theorem dF_kindAt_35 : decode (am_by jF_kindAt) 35 = .ok (.istore 5, 2) := by decide +kernel
theorem dF_kindAt_37 : decode (am_by jF_kindAt) 37 = .ok (.iload_n 1, 1) := by decide +kernel
theorem dF_kindAt_38 : decode (am_by jF_kindAt) 38 = .ok (.bipush 6, 2) := by decide +kernel
theorem dF_kindAt_40 : decode (am_by jF_kindAt) 40 = .ok (.invokestatic 51, 3) := by decide +kernel
theorem dF_kindAt_43 : decode (am_by jF_kindAt) 43 = .ok (.ifCond .eq 13, 3) := by decide +kernel
theorem dF_kindAt_46 : decode (am_by jF_kindAt) 46 = .ok (.iload 4, 2) := by decide +kernel
theorem dF_kindAt_48 : decode (am_by jF_kindAt) 48 = .ok (.ifCond .ne 10, 3) := by decide +kernel
theorem dF_kindAt_51 : decode (am_by jF_kindAt) 51 = .ok (.iload 5, 2) := by decide +kernel
theorem dF_kindAt_53 : decode (am_by jF_kindAt) 53 = .ok (.ifCond .ne 5, 3) := by decide +kernel
theorem dF_kindAt_56 : decode (am_by jF_kindAt) 56 = .ok (.iconst (-1), 1) := by decide +kernel
theorem dF_kindAt_57 : decode (am_by jF_kindAt) 57 = .ok (.ireturn, 1) := by decide +kernel
theorem dF_kindAt_58 : decode (am_by jF_kindAt) 58 = .ok (.aload_n 0, 1) := by decide +kernel
theorem dF_kindAt_59 : decode (am_by jF_kindAt) 59 = .ok (.getfield 19, 3) := by decide +kernel
theorem dF_kindAt_62 : decode (am_by jF_kindAt) 62 = .ok (.aload_n 0, 1) := by decide +kernel
theorem dF_kindAt_63 : decode (am_by jF_kindAt) 63 = .ok (.getfield 11, 3) := by decide +kernel
theorem dF_kindAt_66 : decode (am_by jF_kindAt) 66 = .ok (.aload_n 0, 1) := by decide +kernel
theorem dF_kindAt_67 : decode (am_by jF_kindAt) 67 = .ok (.getfield 47, 3) := by decide +kernel
theorem dF_kindAt_70 : decode (am_by jF_kindAt) 70 = .ok (.aaload, 1) := by decide +kernel
theorem dF_kindAt_71 : decode (am_by jF_kindAt) 71 = .ok (.iload_n 1, 1) := by decide +kernel
theorem dF_kindAt_72 : decode (am_by jF_kindAt) 72 = .ok (.invokevirtual 91, 3) := by decide +kernel
theorem dF_kindAt_75 : decode (am_by jF_kindAt) 75 = .ok (.ifCond .eq 14, 3) := by decide +kernel
theorem dF_kindAt_78 : decode (am_by jF_kindAt) 78 = .ok (.aload_n 0, 1) := by decide +kernel
theorem dF_kindAt_79 : decode (am_by jF_kindAt) 79 = .ok (.getfield 19, 3) := by decide +kernel
theorem dF_kindAt_82 : decode (am_by jF_kindAt) 82 = .ok (.iload_n 2, 1) := by decide +kernel
theorem dF_kindAt_83 : decode (am_by jF_kindAt) 83 = .ok (.invokevirtual 98, 3) := by decide +kernel
theorem dF_kindAt_86 : decode (am_by jF_kindAt) 86 = .ok (.ifCond .ne 6, 3) := by decide +kernel
theorem dF_kindAt_89 : decode (am_by jF_kindAt) 89 = .ok (.bipush (-2), 2) := by decide +kernel
theorem dF_kindAt_91 : decode (am_by jF_kindAt) 91 = .ok (.ireturn, 1) := by decide +kernel
theorem dF_kindAt_92 : decode (am_by jF_kindAt) 92 = .ok (.iload_n 3, 1) := by decide +kernel
theorem dF_kindAt_93 : decode (am_by jF_kindAt) 93 = .ok (.iconst (-1), 1) := by decide +kernel
theorem dF_kindAt_94 : decode (am_by jF_kindAt) 94 = .ok (.if_icmp .ne 13, 3) := by decide +kernel
theorem dF_kindAt_97 : decode (am_by jF_kindAt) 97 = .ok (.aload_n 0, 1) := by decide +kernel
theorem dF_kindAt_98 : decode (am_by jF_kindAt) 98 = .ok (.getfield 19, 3) := by decide +kernel
theorem dF_kindAt_101 : decode (am_by jF_kindAt) 101 = .ok (.getfield 102, 3) := by decide +kernel
theorem dF_kindAt_104 : decode (am_by jF_kindAt) 104 = .ok (.iload_n 2, 1) := by decide +kernel
theorem dF_kindAt_105 : decode (am_by jF_kindAt) 105 = .ok (.iaload, 1) := by decide +kernel
theorem dF_kindAt_106 : decode (am_by jF_kindAt) 106 = .ok (.ireturn, 1) := by decide +kernel
theorem dF_kindAt_107 : decode (am_by jF_kindAt) 107 = .ok (.iload 4, 2) := by decide +kernel
theorem dF_kindAt_109 : decode (am_by jF_kindAt) 109 = .ok (.ifCond .eq 15, 3) := by decide +kernel
theorem dF_kindAt_112 : decode (am_by jF_kindAt) 112 = .ok (.aload_n 0, 1) := by decide +kernel
theorem dF_kindAt_113 : decode (am_by jF_kindAt) 113 = .ok (.getfield 19, 3) := by decide +kernel
theorem dF_kindAt_116 : decode (am_by jF_kindAt) 116 = .ok (.iload_n 2, 1) := by decide +kernel
theorem dF_kindAt_117 : decode (am_by jF_kindAt) 117 = .ok (.iload_n 3, 1) := by decide +kernel
theorem dF_kindAt_118 : decode (am_by jF_kindAt) 118 = .ok (.invokevirtual 106, 3) := by decide +kernel
theorem dF_kindAt_121 : decode (am_by jF_kindAt) 121 = .ok (.goto 15, 3) := by decide +kernel
theorem dF_kindAt_124 : decode (am_by jF_kindAt) 124 = .ok (.aload_n 0, 1) := by decide +kernel
theorem dF_kindAt_125 : decode (am_by jF_kindAt) 125 = .ok (.getfield 19, 3) := by decide +kernel
theorem dF_kindAt_128 : decode (am_by jF_kindAt) 128 = .ok (.iload_n 2, 1) := by decide +kernel
theorem dF_kindAt_129 : decode (am_by jF_kindAt) 129 = .ok (.iload_n 3, 1) := by decide +kernel
theorem dF_kindAt_130 : decode (am_by jF_kindAt) 130 = .ok (.bipush 10, 2) := by decide +kernel
theorem dF_kindAt_132 : decode (am_by jF_kindAt) 132 = .ok (.isub, 1) := by decide +kernel
theorem dF_kindAt_133 : decode (am_by jF_kindAt) 133 = .ok (.invokevirtual 110, 3) := by decide +kernel
theorem dF_kindAt_136 : decode (am_by jF_kindAt) 136 = .ok (.ireturn, 1) := by decide +kernel
theorem dF_run_0 : decode (am_by jF_run) 0 = .ok (.iload_n 1, 1) := by decide +kernel
theorem dF_run_1 : decode (am_by jF_run) 1 = .ok (.iconst 2, 1) := by decide +kernel
theorem dF_run_2 : decode (am_by jF_run) 2 = .ok (.invokestatic 51, 3) := by decide +kernel
theorem dF_run_5 : decode (am_by jF_run) 5 = .ok (.ifCond .eq 16, 3) := by decide +kernel
theorem dF_run_8 : decode (am_by jF_run) 8 = .ok (.iload_n 2, 1) := by decide +kernel
theorem dF_run_9 : decode (am_by jF_run) 9 = .ok (.bipush 6, 2) := by decide +kernel
theorem dF_run_11 : decode (am_by jF_run) 11 = .ok (.invokestatic 51, 3) := by decide +kernel
theorem dF_run_14 : decode (am_by jF_run) 14 = .ok (.ifCond .eq 7, 3) := by decide +kernel
theorem dF_run_17 : decode (am_by jF_run) 17 = .ok (.iconst 1, 1) := by decide +kernel
theorem dF_run_18 : decode (am_by jF_run) 18 = .ok (.goto 4, 3) := by decide +kernel
theorem dF_run_21 : decode (am_by jF_run) 21 = .ok (.iconst 0, 1) := by decide +kernel
theorem dF_run_22 : decode (am_by jF_run) 22 = .ok (.istore 7, 2) := by decide +kernel
theorem dF_run_24 : decode (am_by jF_run) 24 = .ok (.iload 7, 2) := by decide +kernel
theorem dF_run_26 : decode (am_by jF_run) 26 = .ok (.ifCond .eq 13, 3) := by decide +kernel
theorem dF_run_29 : decode (am_by jF_run) 29 = .ok (.iload_n 3, 1) := by decide +kernel
theorem dF_run_30 : decode (am_by jF_run) 30 = .ok (.sipush 1001, 3) := by decide +kernel
theorem dF_run_33 : decode (am_by jF_run) 33 = .ok (.invokestatic 51, 3) := by decide +kernel
theorem dF_run_36 : decode (am_by jF_run) 36 = .ok (.ifCond .ne 5, 3) := by decide +kernel
theorem dF_run_39 : decode (am_by jF_run) 39 = .ok (.iconst (-1), 1) := by decide +kernel
theorem dF_run_40 : decode (am_by jF_run) 40 = .ok (.ireturn, 1) := by decide +kernel
theorem dF_run_41 : decode (am_by jF_run) 41 = .ok (.aload_n 0, 1) := by decide +kernel
theorem dF_run_42 : decode (am_by jF_run) 42 = .ok (.aload_n 0, 1) := by decide +kernel
theorem dF_run_43 : decode (am_by jF_run) 43 = .ok (.getfield 11, 3) := by decide +kernel
theorem dF_run_46 : decode (am_by jF_run) 46 = .ok (.iload_n 1, 1) := by decide +kernel
theorem dF_run_47 : decode (am_by jF_run) 47 = .ok (.aaload, 1) := by decide +kernel
theorem dF_run_48 : decode (am_by jF_run) 48 = .ok (.iload_n 2, 1) := by decide +kernel
theorem dF_run_49 : decode (am_by jF_run) 49 = .ok (.invokevirtual 113, 3) := by decide +kernel
theorem dF_run_52 : decode (am_by jF_run) 52 = .ok (.ifCond .ne 6, 3) := by decide +kernel
theorem dF_run_55 : decode (am_by jF_run) 55 = .ok (.bipush (-4), 2) := by decide +kernel
theorem dF_run_57 : decode (am_by jF_run) 57 = .ok (.ireturn, 1) := by decide +kernel
theorem dF_run_58 : decode (am_by jF_run) 58 = .ok (.aload_n 0, 1) := by decide +kernel
theorem dF_run_59 : decode (am_by jF_run) 59 = .ok (.getfield 26, 3) := by decide +kernel
theorem dF_run_62 : decode (am_by jF_run) 62 = .ok (.aload_n 0, 1) := by decide +kernel
theorem dF_run_63 : decode (am_by jF_run) 63 = .ok (.getfield 11, 3) := by decide +kernel
theorem dF_run_66 : decode (am_by jF_run) 66 = .ok (.iload_n 1, 1) := by decide +kernel
theorem dF_run_67 : decode (am_by jF_run) 67 = .ok (.aaload, 1) := by decide +kernel
theorem dF_run_68 : decode (am_by jF_run) 68 = .ok (.iload_n 2, 1) := by decide +kernel
theorem dF_run_69 : decode (am_by jF_run) 69 = .ok (.iload_n 3, 1) := by decide +kernel
theorem dF_run_70 : decode (am_by jF_run) 70 = .ok (.iload 4, 2) := by decide +kernel
theorem dF_run_72 : decode (am_by jF_run) 72 = .ok (.iload 5, 2) := by decide +kernel
theorem dF_run_74 : decode (am_by jF_run) 74 = .ok (.iload 6, 2) := by decide +kernel
theorem dF_run_76 : decode (am_by jF_run) 76 = .ok (.aload_n 0, 1) := by decide +kernel
theorem dF_run_77 : decode (am_by jF_run) 77 = .ok (.getfield 40, 3) := by decide +kernel
theorem dF_run_80 : decode (am_by jF_run) 80 = .ok (.invokevirtual 116, 3) := by decide +kernel
theorem dF_run_83 : decode (am_by jF_run) 83 = .ok (.aload_n 0, 1) := by decide +kernel
theorem dF_run_84 : decode (am_by jF_run) 84 = .ok (.getfield 40, 3) := by decide +kernel
theorem dF_run_87 : decode (am_by jF_run) 87 = .ok (.getfield 120, 3) := by decide +kernel
theorem dF_run_90 : decode (am_by jF_run) 90 = .ok (.ireturn, 1) := by decide +kernel
theorem dF_ran_0 : decode (am_by jF_ran) 0 = .ok (.iload_n 1, 1) := by decide +kernel
theorem dF_ran_1 : decode (am_by jF_ran) 1 = .ok (.tableswitch 87 0 5 #[39, 47, 55, 63, 71, 79], 39) := by decide +kernel
theorem dF_ran_40 : decode (am_by jF_ran) 40 = .ok (.aload_n 0, 1) := by decide +kernel
theorem dF_ran_41 : decode (am_by jF_ran) 41 = .ok (.getfield 40, 3) := by decide +kernel
theorem dF_ran_44 : decode (am_by jF_ran) 44 = .ok (.getfield 123, 3) := by decide +kernel
theorem dF_ran_47 : decode (am_by jF_ran) 47 = .ok (.ireturn, 1) := by decide +kernel
theorem dF_ran_48 : decode (am_by jF_ran) 48 = .ok (.aload_n 0, 1) := by decide +kernel
theorem dF_ran_49 : decode (am_by jF_ran) 49 = .ok (.getfield 40, 3) := by decide +kernel
theorem dF_ran_52 : decode (am_by jF_ran) 52 = .ok (.getfield 126, 3) := by decide +kernel
theorem dF_ran_55 : decode (am_by jF_ran) 55 = .ok (.ireturn, 1) := by decide +kernel
theorem dF_ran_56 : decode (am_by jF_ran) 56 = .ok (.aload_n 0, 1) := by decide +kernel
theorem dF_ran_57 : decode (am_by jF_ran) 57 = .ok (.getfield 40, 3) := by decide +kernel
theorem dF_ran_60 : decode (am_by jF_ran) 60 = .ok (.getfield 129, 3) := by decide +kernel
theorem dF_ran_63 : decode (am_by jF_ran) 63 = .ok (.ireturn, 1) := by decide +kernel
theorem dF_ran_64 : decode (am_by jF_ran) 64 = .ok (.aload_n 0, 1) := by decide +kernel
theorem dF_ran_65 : decode (am_by jF_ran) 65 = .ok (.getfield 40, 3) := by decide +kernel
theorem dF_ran_68 : decode (am_by jF_ran) 68 = .ok (.getfield 132, 3) := by decide +kernel
theorem dF_ran_71 : decode (am_by jF_ran) 71 = .ok (.ireturn, 1) := by decide +kernel
theorem dF_ran_72 : decode (am_by jF_ran) 72 = .ok (.aload_n 0, 1) := by decide +kernel
theorem dF_ran_73 : decode (am_by jF_ran) 73 = .ok (.getfield 40, 3) := by decide +kernel
theorem dF_ran_76 : decode (am_by jF_ran) 76 = .ok (.getfield 135, 3) := by decide +kernel
theorem dF_ran_79 : decode (am_by jF_ran) 79 = .ok (.ireturn, 1) := by decide +kernel
theorem dF_ran_80 : decode (am_by jF_ran) 80 = .ok (.aload_n 0, 1) := by decide +kernel
theorem dF_ran_81 : decode (am_by jF_ran) 81 = .ok (.getfield 40, 3) := by decide +kernel
theorem dF_ran_84 : decode (am_by jF_ran) 84 = .ok (.getfield 138, 3) := by decide +kernel
theorem dF_ran_87 : decode (am_by jF_ran) 87 = .ok (.ireturn, 1) := by decide +kernel
theorem dF_ran_88 : decode (am_by jF_ran) 88 = .ok (.iconst (-1), 1) := by decide +kernel
theorem dF_ran_89 : decode (am_by jF_ran) 89 = .ok (.ireturn, 1) := by decide +kernel
theorem dF_trace_0 : decode (am_by jF_trace) 0 = .ok (.iload_n 1, 1) := by decide +kernel
theorem dF_trace_1 : decode (am_by jF_trace) 1 = .ok (.aload_n 0, 1) := by decide +kernel
theorem dF_trace_2 : decode (am_by jF_trace) 2 = .ok (.getfield 40, 3) := by decide +kernel
theorem dF_trace_5 : decode (am_by jF_trace) 5 = .ok (.invokevirtual 141, 3) := by decide +kernel
theorem dF_trace_8 : decode (am_by jF_trace) 8 = .ok (.invokestatic 51, 3) := by decide +kernel
theorem dF_trace_11 : decode (am_by jF_trace) 11 = .ok (.ifCond .eq 15, 3) := by decide +kernel
theorem dF_trace_14 : decode (am_by jF_trace) 14 = .ok (.aload_n 0, 1) := by decide +kernel
theorem dF_trace_15 : decode (am_by jF_trace) 15 = .ok (.getfield 40, 3) := by decide +kernel
theorem dF_trace_18 : decode (am_by jF_trace) 18 = .ok (.getfield 144, 3) := by decide +kernel
theorem dF_trace_21 : decode (am_by jF_trace) 21 = .ok (.iload_n 1, 1) := by decide +kernel
theorem dF_trace_22 : decode (am_by jF_trace) 22 = .ok (.iaload, 1) := by decide +kernel
theorem dF_trace_23 : decode (am_by jF_trace) 23 = .ok (.goto 5, 3) := by decide +kernel
theorem dF_trace_26 : decode (am_by jF_trace) 26 = .ok (.bipush (-2), 2) := by decide +kernel
theorem dF_trace_28 : decode (am_by jF_trace) 28 = .ok (.ireturn, 1) := by decide +kernel
theorem dF_compare_0 : decode (am_by jF_compare) 0 = .ok (.iload_n 1, 1) := by decide +kernel
theorem dF_compare_1 : decode (am_by jF_compare) 1 = .ok (.bipush 6, 2) := by decide +kernel
theorem dF_compare_3 : decode (am_by jF_compare) 3 = .ok (.invokestatic 51, 3) := by decide +kernel
theorem dF_compare_6 : decode (am_by jF_compare) 6 = .ok (.ifCond .ne 5, 3) := by decide +kernel
theorem dF_compare_9 : decode (am_by jF_compare) 9 = .ok (.iconst (-1), 1) := by decide +kernel
theorem dF_compare_10 : decode (am_by jF_compare) 10 = .ok (.ireturn, 1) := by decide +kernel
theorem dF_compare_11 : decode (am_by jF_compare) 11 = .ok (.aload_n 0, 1) := by decide +kernel
theorem dF_compare_12 : decode (am_by jF_compare) 12 = .ok (.aload_n 0, 1) := by decide +kernel
theorem dF_compare_13 : decode (am_by jF_compare) 13 = .ok (.getfield 11, 3) := by decide +kernel
theorem dF_compare_16 : decode (am_by jF_compare) 16 = .ok (.iconst 0, 1) := by decide +kernel
theorem dF_compare_17 : decode (am_by jF_compare) 17 = .ok (.aaload, 1) := by decide +kernel
theorem dF_compare_18 : decode (am_by jF_compare) 18 = .ok (.iload_n 1, 1) := by decide +kernel
theorem dF_compare_19 : decode (am_by jF_compare) 19 = .ok (.invokevirtual 113, 3) := by decide +kernel
theorem dF_compare_22 : decode (am_by jF_compare) 22 = .ok (.ifCond .eq 17, 3) := by decide +kernel
theorem dF_compare_25 : decode (am_by jF_compare) 25 = .ok (.aload_n 0, 1) := by decide +kernel
theorem dF_compare_26 : decode (am_by jF_compare) 26 = .ok (.aload_n 0, 1) := by decide +kernel
theorem dF_compare_27 : decode (am_by jF_compare) 27 = .ok (.getfield 11, 3) := by decide +kernel
theorem dF_compare_30 : decode (am_by jF_compare) 30 = .ok (.iconst 1, 1) := by decide +kernel
theorem dF_compare_31 : decode (am_by jF_compare) 31 = .ok (.aaload, 1) := by decide +kernel
theorem dF_compare_32 : decode (am_by jF_compare) 32 = .ok (.iload_n 1, 1) := by decide +kernel
theorem dF_compare_33 : decode (am_by jF_compare) 33 = .ok (.invokevirtual 113, 3) := by decide +kernel
theorem dF_compare_36 : decode (am_by jF_compare) 36 = .ok (.ifCond .ne 6, 3) := by decide +kernel
theorem dF_compare_39 : decode (am_by jF_compare) 39 = .ok (.bipush (-4), 2) := by decide +kernel
theorem dF_compare_41 : decode (am_by jF_compare) 41 = .ok (.ireturn, 1) := by decide +kernel
theorem dF_compare_42 : decode (am_by jF_compare) 42 = .ok (.aload_n 0, 1) := by decide +kernel
theorem dF_compare_43 : decode (am_by jF_compare) 43 = .ok (.getfield 26, 3) := by decide +kernel
theorem dF_compare_46 : decode (am_by jF_compare) 46 = .ok (.aload_n 0, 1) := by decide +kernel
theorem dF_compare_47 : decode (am_by jF_compare) 47 = .ok (.getfield 11, 3) := by decide +kernel
theorem dF_compare_50 : decode (am_by jF_compare) 50 = .ok (.iconst 0, 1) := by decide +kernel
theorem dF_compare_51 : decode (am_by jF_compare) 51 = .ok (.aaload, 1) := by decide +kernel
theorem dF_compare_52 : decode (am_by jF_compare) 52 = .ok (.iload_n 1, 1) := by decide +kernel
theorem dF_compare_53 : decode (am_by jF_compare) 53 = .ok (.sipush 1000, 3) := by decide +kernel
theorem dF_compare_56 : decode (am_by jF_compare) 56 = .ok (.iload_n 2, 1) := by decide +kernel
theorem dF_compare_57 : decode (am_by jF_compare) 57 = .ok (.iload_n 3, 1) := by decide +kernel
theorem dF_compare_58 : decode (am_by jF_compare) 58 = .ok (.iload 4, 2) := by decide +kernel
theorem dF_compare_60 : decode (am_by jF_compare) 60 = .ok (.aload_n 0, 1) := by decide +kernel
theorem dF_compare_61 : decode (am_by jF_compare) 61 = .ok (.getfield 44, 3) := by decide +kernel
theorem dF_compare_64 : decode (am_by jF_compare) 64 = .ok (.invokevirtual 116, 3) := by decide +kernel
theorem dF_compare_67 : decode (am_by jF_compare) 67 = .ok (.aload_n 0, 1) := by decide +kernel
theorem dF_compare_68 : decode (am_by jF_compare) 68 = .ok (.getfield 26, 3) := by decide +kernel
theorem dF_compare_71 : decode (am_by jF_compare) 71 = .ok (.aload_n 0, 1) := by decide +kernel
theorem dF_compare_72 : decode (am_by jF_compare) 72 = .ok (.getfield 11, 3) := by decide +kernel
theorem dF_compare_75 : decode (am_by jF_compare) 75 = .ok (.iconst 1, 1) := by decide +kernel
theorem dF_compare_76 : decode (am_by jF_compare) 76 = .ok (.aaload, 1) := by decide +kernel
theorem dF_compare_77 : decode (am_by jF_compare) 77 = .ok (.iload_n 1, 1) := by decide +kernel
theorem dF_compare_78 : decode (am_by jF_compare) 78 = .ok (.sipush 1000, 3) := by decide +kernel
theorem dF_compare_81 : decode (am_by jF_compare) 81 = .ok (.iload_n 2, 1) := by decide +kernel
theorem dF_compare_82 : decode (am_by jF_compare) 82 = .ok (.iload_n 3, 1) := by decide +kernel
theorem dF_compare_83 : decode (am_by jF_compare) 83 = .ok (.iload 4, 2) := by decide +kernel
theorem dF_compare_85 : decode (am_by jF_compare) 85 = .ok (.aload_n 0, 1) := by decide +kernel
theorem dF_compare_86 : decode (am_by jF_compare) 86 = .ok (.getfield 40, 3) := by decide +kernel
theorem dF_compare_89 : decode (am_by jF_compare) 89 = .ok (.invokevirtual 116, 3) := by decide +kernel
theorem dF_compare_92 : decode (am_by jF_compare) 92 = .ok (.aload_n 0, 1) := by decide +kernel
theorem dF_compare_93 : decode (am_by jF_compare) 93 = .ok (.getfield 44, 3) := by decide +kernel
theorem dF_compare_96 : decode (am_by jF_compare) 96 = .ok (.getfield 120, 3) := by decide +kernel
theorem dF_compare_99 : decode (am_by jF_compare) 99 = .ok (.bipush (-5), 2) := by decide +kernel
theorem dF_compare_101 : decode (am_by jF_compare) 101 = .ok (.if_icmp .eq 15, 3) := by decide +kernel
theorem dF_compare_104 : decode (am_by jF_compare) 104 = .ok (.aload_n 0, 1) := by decide +kernel
theorem dF_compare_105 : decode (am_by jF_compare) 105 = .ok (.getfield 40, 3) := by decide +kernel
theorem dF_compare_108 : decode (am_by jF_compare) 108 = .ok (.getfield 120, 3) := by decide +kernel
theorem dF_compare_111 : decode (am_by jF_compare) 111 = .ok (.bipush (-5), 2) := by decide +kernel
theorem dF_compare_113 : decode (am_by jF_compare) 113 = .ok (.if_icmp .ne 5, 3) := by decide +kernel
theorem dF_compare_116 : decode (am_by jF_compare) 116 = .ok (.iconst 3, 1) := by decide +kernel
theorem dF_compare_117 : decode (am_by jF_compare) 117 = .ok (.ireturn, 1) := by decide +kernel
theorem dF_compare_118 : decode (am_by jF_compare) 118 = .ok (.aload_n 0, 1) := by decide +kernel
theorem dF_compare_119 : decode (am_by jF_compare) 119 = .ok (.getfield 44, 3) := by decide +kernel
theorem dF_compare_122 : decode (am_by jF_compare) 122 = .ok (.getfield 120, 3) := by decide +kernel
theorem dF_compare_125 : decode (am_by jF_compare) 125 = .ok (.aload_n 0, 1) := by decide +kernel
theorem dF_compare_126 : decode (am_by jF_compare) 126 = .ok (.getfield 40, 3) := by decide +kernel
theorem dF_compare_129 : decode (am_by jF_compare) 129 = .ok (.getfield 120, 3) := by decide +kernel
theorem dF_compare_132 : decode (am_by jF_compare) 132 = .ok (.if_icmp .ne 20, 3) := by decide +kernel
theorem dF_compare_135 : decode (am_by jF_compare) 135 = .ok (.aload_n 0, 1) := by decide +kernel
theorem dF_compare_136 : decode (am_by jF_compare) 136 = .ok (.getfield 44, 3) := by decide +kernel
theorem dF_compare_139 : decode (am_by jF_compare) 139 = .ok (.getfield 123, 3) := by decide +kernel
theorem dF_compare_142 : decode (am_by jF_compare) 142 = .ok (.aload_n 0, 1) := by decide +kernel
theorem dF_compare_143 : decode (am_by jF_compare) 143 = .ok (.getfield 40, 3) := by decide +kernel
theorem dF_compare_146 : decode (am_by jF_compare) 146 = .ok (.getfield 123, 3) := by decide +kernel
theorem dF_compare_149 : decode (am_by jF_compare) 149 = .ok (.if_icmp .eq 5, 3) := by decide +kernel
theorem dF_compare_152 : decode (am_by jF_compare) 152 = .ok (.iconst 1, 1) := by decide +kernel
theorem dF_compare_153 : decode (am_by jF_compare) 153 = .ok (.ireturn, 1) := by decide +kernel
theorem dF_compare_154 : decode (am_by jF_compare) 154 = .ok (.aload_n 0, 1) := by decide +kernel
theorem dF_compare_155 : decode (am_by jF_compare) 155 = .ok (.getfield 40, 3) := by decide +kernel
theorem dF_compare_158 : decode (am_by jF_compare) 158 = .ok (.aload_n 0, 1) := by decide +kernel
theorem dF_compare_159 : decode (am_by jF_compare) 159 = .ok (.getfield 44, 3) := by decide +kernel
theorem dF_compare_162 : decode (am_by jF_compare) 162 = .ok (.invokevirtual 147, 3) := by decide +kernel
theorem dF_compare_165 : decode (am_by jF_compare) 165 = .ok (.ifCond .eq 7, 3) := by decide +kernel
theorem dF_compare_168 : decode (am_by jF_compare) 168 = .ok (.iconst 0, 1) := by decide +kernel
theorem dF_compare_169 : decode (am_by jF_compare) 169 = .ok (.goto 4, 3) := by decide +kernel
theorem dF_compare_172 : decode (am_by jF_compare) 172 = .ok (.iconst 2, 1) := by decide +kernel
theorem dF_compare_173 : decode (am_by jF_compare) 173 = .ok (.ireturn, 1) := by decide +kernel
theorem dF_unfold_0 : decode (am_by jF_unfold) 0 = .ok (.iload_n 1, 1) := by decide +kernel
theorem dF_unfold_1 : decode (am_by jF_unfold) 1 = .ok (.bipush 6, 2) := by decide +kernel
theorem dF_unfold_3 : decode (am_by jF_unfold) 3 = .ok (.invokestatic 51, 3) := by decide +kernel
theorem dF_unfold_6 : decode (am_by jF_unfold) 6 = .ok (.ifCond .ne 5, 3) := by decide +kernel
theorem dF_unfold_9 : decode (am_by jF_unfold) 9 = .ok (.iconst (-1), 1) := by decide +kernel
theorem dF_unfold_10 : decode (am_by jF_unfold) 10 = .ok (.ireturn, 1) := by decide +kernel
theorem dF_unfold_11 : decode (am_by jF_unfold) 11 = .ok (.aload_n 0, 1) := by decide +kernel
theorem dF_unfold_12 : decode (am_by jF_unfold) 12 = .ok (.getfield 19, 3) := by decide +kernel
theorem dF_unfold_15 : decode (am_by jF_unfold) 15 = .ok (.aload_n 0, 1) := by decide +kernel
theorem dF_unfold_16 : decode (am_by jF_unfold) 16 = .ok (.getfield 11, 3) := by decide +kernel
theorem dF_unfold_19 : decode (am_by jF_unfold) 19 = .ok (.aload_n 0, 1) := by decide +kernel
theorem dF_unfold_20 : decode (am_by jF_unfold) 20 = .ok (.getfield 47, 3) := by decide +kernel
theorem dF_unfold_23 : decode (am_by jF_unfold) 23 = .ok (.aaload, 1) := by decide +kernel
theorem dF_unfold_24 : decode (am_by jF_unfold) 24 = .ok (.iload_n 1, 1) := by decide +kernel
theorem dF_unfold_25 : decode (am_by jF_unfold) 25 = .ok (.invokevirtual 91, 3) := by decide +kernel
theorem dF_unfold_28 : decode (am_by jF_unfold) 28 = .ok (.ifCond .ne 6, 3) := by decide +kernel
theorem dF_unfold_31 : decode (am_by jF_unfold) 31 = .ok (.bipush (-4), 2) := by decide +kernel
theorem dF_unfold_33 : decode (am_by jF_unfold) 33 = .ok (.ireturn, 1) := by decide +kernel
theorem dF_unfold_34 : decode (am_by jF_unfold) 34 = .ok (.aload_n 0, 1) := by decide +kernel
theorem dF_unfold_35 : decode (am_by jF_unfold) 35 = .ok (.getfield 33, 3) := by decide +kernel
theorem dF_unfold_38 : decode (am_by jF_unfold) 38 = .ok (.aload_n 0, 1) := by decide +kernel
theorem dF_unfold_39 : decode (am_by jF_unfold) 39 = .ok (.iload_n 1, 1) := by decide +kernel
theorem dF_unfold_40 : decode (am_by jF_unfold) 40 = .ok (.invokevirtual 63, 3) := by decide +kernel
theorem dF_unfold_43 : decode (am_by jF_unfold) 43 = .ok (.iload_n 2, 1) := by decide +kernel
theorem dF_unfold_44 : decode (am_by jF_unfold) 44 = .ok (.invokevirtual 151, 3) := by decide +kernel
theorem dF_unfold_47 : decode (am_by jF_unfold) 47 = .ok (.ireturn, 1) := by decide +kernel
theorem dF_inline_0 : decode (am_by jF_inline) 0 = .ok (.iload_n 1, 1) := by decide +kernel
theorem dF_inline_1 : decode (am_by jF_inline) 1 = .ok (.bipush 6, 2) := by decide +kernel
theorem dF_inline_3 : decode (am_by jF_inline) 3 = .ok (.invokestatic 51, 3) := by decide +kernel
theorem dF_inline_6 : decode (am_by jF_inline) 6 = .ok (.ifCond .ne 5, 3) := by decide +kernel
theorem dF_inline_9 : decode (am_by jF_inline) 9 = .ok (.iconst (-1), 1) := by decide +kernel
theorem dF_inline_10 : decode (am_by jF_inline) 10 = .ok (.ireturn, 1) := by decide +kernel
theorem dF_inline_11 : decode (am_by jF_inline) 11 = .ok (.aload_n 0, 1) := by decide +kernel
theorem dF_inline_12 : decode (am_by jF_inline) 12 = .ok (.iload_n 1, 1) := by decide +kernel
theorem dF_inline_13 : decode (am_by jF_inline) 13 = .ok (.invokevirtual 63, 3) := by decide +kernel
theorem dF_inline_16 : decode (am_by jF_inline) 16 = .ok (.astore_n 3, 1) := by decide +kernel
theorem dF_inline_17 : decode (am_by jF_inline) 17 = .ok (.aload_n 0, 1) := by decide +kernel
theorem dF_inline_18 : decode (am_by jF_inline) 18 = .ok (.getfield 19, 3) := by decide +kernel
theorem dF_inline_21 : decode (am_by jF_inline) 21 = .ok (.aload_n 0, 1) := by decide +kernel
theorem dF_inline_22 : decode (am_by jF_inline) 22 = .ok (.getfield 11, 3) := by decide +kernel
theorem dF_inline_25 : decode (am_by jF_inline) 25 = .ok (.aload_n 0, 1) := by decide +kernel
theorem dF_inline_26 : decode (am_by jF_inline) 26 = .ok (.getfield 47, 3) := by decide +kernel
theorem dF_inline_29 : decode (am_by jF_inline) 29 = .ok (.aaload, 1) := by decide +kernel
theorem dF_inline_30 : decode (am_by jF_inline) 30 = .ok (.iload_n 1, 1) := by decide +kernel
theorem dF_inline_31 : decode (am_by jF_inline) 31 = .ok (.invokevirtual 91, 3) := by decide +kernel
theorem dF_inline_34 : decode (am_by jF_inline) 34 = .ok (.ifCond .ne 6, 3) := by decide +kernel
theorem dF_inline_37 : decode (am_by jF_inline) 37 = .ok (.bipush (-4), 2) := by decide +kernel
theorem dF_inline_39 : decode (am_by jF_inline) 39 = .ok (.ireturn, 1) := by decide +kernel
theorem dF_inline_40 : decode (am_by jF_inline) 40 = .ok (.aload_n 3, 1) := by decide +kernel
theorem dF_inline_41 : decode (am_by jF_inline) 41 = .ok (.iload_n 2, 1) := by decide +kernel
theorem dF_inline_42 : decode (am_by jF_inline) 42 = .ok (.bipush 21, 2) := by decide +kernel
theorem dF_inline_44 : decode (am_by jF_inline) 44 = .ok (.invokevirtual 155, 3) := by decide +kernel
theorem dF_inline_47 : decode (am_by jF_inline) 47 = .ok (.ifCond .ne 6, 3) := by decide +kernel
theorem dF_inline_50 : decode (am_by jF_inline) 50 = .ok (.bipush (-2), 2) := by decide +kernel
theorem dF_inline_52 : decode (am_by jF_inline) 52 = .ok (.ireturn, 1) := by decide +kernel
theorem dF_inline_53 : decode (am_by jF_inline) 53 = .ok (.aload_n 3, 1) := by decide +kernel
theorem dF_inline_54 : decode (am_by jF_inline) 54 = .ok (.getfield 158, 3) := by decide +kernel
theorem dF_inline_57 : decode (am_by jF_inline) 57 = .ok (.iload_n 2, 1) := by decide +kernel
theorem dF_inline_58 : decode (am_by jF_inline) 58 = .ok (.iaload, 1) := by decide +kernel
theorem dF_inline_59 : decode (am_by jF_inline) 59 = .ok (.istore 4, 2) := by decide +kernel
theorem dF_inline_61 : decode (am_by jF_inline) 61 = .ok (.aload_n 0, 1) := by decide +kernel
theorem dF_inline_62 : decode (am_by jF_inline) 62 = .ok (.iload 4, 2) := by decide +kernel
theorem dF_inline_64 : decode (am_by jF_inline) 64 = .ok (.invokevirtual 63, 3) := by decide +kernel
theorem dF_inline_67 : decode (am_by jF_inline) 67 = .ok (.astore 5, 2) := by decide +kernel
theorem dF_inline_69 : decode (am_by jF_inline) 69 = .ok (.aload_n 0, 1) := by decide +kernel
theorem dF_inline_70 : decode (am_by jF_inline) 70 = .ok (.getfield 19, 3) := by decide +kernel
theorem dF_inline_73 : decode (am_by jF_inline) 73 = .ok (.iload_n 2, 1) := by decide +kernel
theorem dF_inline_74 : decode (am_by jF_inline) 74 = .ok (.invokevirtual 98, 3) := by decide +kernel
theorem dF_inline_77 : decode (am_by jF_inline) 77 = .ok (.ifCond .eq 24, 3) := by decide +kernel
theorem dF_inline_80 : decode (am_by jF_inline) 80 = .ok (.aload_n 0, 1) := by decide +kernel
theorem dF_inline_81 : decode (am_by jF_inline) 81 = .ok (.getfield 19, 3) := by decide +kernel
theorem dF_inline_84 : decode (am_by jF_inline) 84 = .ok (.getfield 102, 3) := by decide +kernel
theorem dF_inline_87 : decode (am_by jF_inline) 87 = .ok (.iload_n 2, 1) := by decide +kernel
theorem dF_inline_88 : decode (am_by jF_inline) 88 = .ok (.iaload, 1) := by decide +kernel
theorem dF_inline_89 : decode (am_by jF_inline) 89 = .ok (.aload 5, 2) := by decide +kernel
theorem dF_inline_91 : decode (am_by jF_inline) 91 = .ok (.getfield 161, 3) := by decide +kernel
theorem dF_inline_94 : decode (am_by jF_inline) 94 = .ok (.if_icmp .ne 7, 3) := by decide +kernel
theorem dF_inline_97 : decode (am_by jF_inline) 97 = .ok (.iconst 1, 1) := by decide +kernel
theorem dF_inline_98 : decode (am_by jF_inline) 98 = .ok (.goto 4, 3) := by decide +kernel
theorem dF_inline_101 : decode (am_by jF_inline) 101 = .ok (.iconst 0, 1) := by decide +kernel
theorem dF_inline_102 : decode (am_by jF_inline) 102 = .ok (.istore 6, 2) := by decide +kernel
theorem dF_inline_104 : decode (am_by jF_inline) 104 = .ok (.aload_n 0, 1) := by decide +kernel
theorem dF_inline_105 : decode (am_by jF_inline) 105 = .ok (.getfield 19, 3) := by decide +kernel
theorem dF_inline_108 : decode (am_by jF_inline) 108 = .ok (.aload_n 0, 1) := by decide +kernel
theorem dF_inline_109 : decode (am_by jF_inline) 109 = .ok (.getfield 11, 3) := by decide +kernel
theorem dF_inline_112 : decode (am_by jF_inline) 112 = .ok (.aload_n 0, 1) := by decide +kernel
theorem dF_inline_113 : decode (am_by jF_inline) 113 = .ok (.getfield 47, 3) := by decide +kernel
theorem dF_inline_116 : decode (am_by jF_inline) 116 = .ok (.aaload, 1) := by decide +kernel
theorem dF_inline_117 : decode (am_by jF_inline) 117 = .ok (.iload 4, 2) := by decide +kernel
theorem dF_inline_119 : decode (am_by jF_inline) 119 = .ok (.invokevirtual 91, 3) := by decide +kernel
theorem dF_inline_122 : decode (am_by jF_inline) 122 = .ok (.ifCond .ne 6, 3) := by decide +kernel
theorem dF_inline_125 : decode (am_by jF_inline) 125 = .ok (.bipush (-4), 2) := by decide +kernel
theorem dF_inline_127 : decode (am_by jF_inline) 127 = .ok (.ireturn, 1) := by decide +kernel
theorem dF_inline_128 : decode (am_by jF_inline) 128 = .ok (.iload 4, 2) := by decide +kernel
theorem dF_inline_130 : decode (am_by jF_inline) 130 = .ok (.iload_n 1, 1) := by decide +kernel
theorem dF_inline_131 : decode (am_by jF_inline) 131 = .ok (.if_icmp .eq 23, 3) := by decide +kernel
theorem dF_inline_134 : decode (am_by jF_inline) 134 = .ok (.aload 5, 2) := by decide +kernel
theorem dF_inline_136 : decode (am_by jF_inline) 136 = .ok (.getfield 164, 3) := by decide +kernel
theorem dF_inline_139 : decode (am_by jF_inline) 139 = .ok (.ifCond .ne 15, 3) := by decide +kernel
theorem dF_inline_142 : decode (am_by jF_inline) 142 = .ok (.aload 5, 2) := by decide +kernel
theorem dF_inline_144 : decode (am_by jF_inline) 144 = .ok (.invokevirtual 168, 3) := by decide +kernel
theorem dF_inline_147 : decode (am_by jF_inline) 147 = .ok (.ifCond .ne 7, 3) := by decide +kernel
theorem dF_inline_150 : decode (am_by jF_inline) 150 = .ok (.iconst 1, 1) := by decide +kernel
theorem dF_inline_151 : decode (am_by jF_inline) 151 = .ok (.goto 4, 3) := by decide +kernel
theorem dF_inline_154 : decode (am_by jF_inline) 154 = .ok (.iconst 0, 1) := by decide +kernel
theorem dF_inline_155 : decode (am_by jF_inline) 155 = .ok (.istore 7, 2) := by decide +kernel
theorem dF_inline_157 : decode (am_by jF_inline) 157 = .ok (.aload_n 3, 1) := by decide +kernel
theorem dF_inline_158 : decode (am_by jF_inline) 158 = .ok (.invokevirtual 172, 3) := by decide +kernel
theorem dF_inline_161 : decode (am_by jF_inline) 161 = .ok (.iconst 1, 1) := by decide +kernel
theorem dF_inline_162 : decode (am_by jF_inline) 162 = .ok (.iadd, 1) := by decide +kernel
theorem dF_inline_163 : decode (am_by jF_inline) 163 = .ok (.aload 5, 2) := by decide +kernel
theorem dF_inline_165 : decode (am_by jF_inline) 165 = .ok (.invokevirtual 172, 3) := by decide +kernel
theorem dF_inline_168 : decode (am_by jF_inline) 168 = .ok (.iadd, 1) := by decide +kernel
theorem dF_inline_169 : decode (am_by jF_inline) 169 = .ok (.istore 8, 2) := by decide +kernel
theorem dF_inline_171 : decode (am_by jF_inline) 171 = .ok (.iload 6, 2) := by decide +kernel
theorem dF_inline_173 : decode (am_by jF_inline) 173 = .ok (.ifCond .eq 27, 3) := by decide +kernel
theorem dF_inline_176 : decode (am_by jF_inline) 176 = .ok (.iload 7, 2) := by decide +kernel
theorem dF_inline_178 : decode (am_by jF_inline) 178 = .ok (.ifCond .eq 22, 3) := by decide +kernel
theorem dF_inline_181 : decode (am_by jF_inline) 181 = .ok (.aload_n 0, 1) := by decide +kernel
theorem dF_inline_182 : decode (am_by jF_inline) 182 = .ok (.getfield 19, 3) := by decide +kernel
theorem dF_inline_185 : decode (am_by jF_inline) 185 = .ok (.aload 5, 2) := by decide +kernel
theorem dF_inline_187 : decode (am_by jF_inline) 187 = .ok (.invokevirtual 175, 3) := by decide +kernel
theorem dF_inline_190 : decode (am_by jF_inline) 190 = .ok (.ifCond .eq 10, 3) := by decide +kernel
theorem dF_inline_193 : decode (am_by jF_inline) 193 = .ok (.iload 8, 2) := by decide +kernel
theorem dF_inline_195 : decode (am_by jF_inline) 195 = .ok (.bipush 8, 2) := by decide +kernel
theorem dF_inline_197 : decode (am_by jF_inline) 197 = .ok (.if_icmp .lt 6, 3) := by decide +kernel
theorem dF_inline_200 : decode (am_by jF_inline) 200 = .ok (.bipush (-2), 2) := by decide +kernel
theorem dF_inline_202 : decode (am_by jF_inline) 202 = .ok (.ireturn, 1) := by decide +kernel
theorem dF_inline_203 : decode (am_by jF_inline) 203 = .ok (.aload_n 0, 1) := by decide +kernel
theorem dF_inline_204 : decode (am_by jF_inline) 204 = .ok (.getfield 33, 3) := by decide +kernel
theorem dF_inline_207 : decode (am_by jF_inline) 207 = .ok (.aload_n 3, 1) := by decide +kernel
theorem dF_inline_208 : decode (am_by jF_inline) 208 = .ok (.iload_n 2, 1) := by decide +kernel
theorem dF_inline_209 : decode (am_by jF_inline) 209 = .ok (.aload 5, 2) := by decide +kernel
theorem dF_inline_211 : decode (am_by jF_inline) 211 = .ok (.invokevirtual 179, 3) := by decide +kernel
theorem dF_inline_214 : decode (am_by jF_inline) 214 = .ok (.ireturn, 1) := by decide +kernel
theorem dF_code_0 : decode (am_by jF_code) 0 = .ok (.iload_n 1, 1) := by decide +kernel
theorem dF_code_1 : decode (am_by jF_code) 1 = .ok (.bipush 6, 2) := by decide +kernel
theorem dF_code_3 : decode (am_by jF_code) 3 = .ok (.invokestatic 51, 3) := by decide +kernel
theorem dF_code_6 : decode (am_by jF_code) 6 = .ok (.ifCond .eq 11, 3) := by decide +kernel
theorem dF_code_9 : decode (am_by jF_code) 9 = .ok (.iload_n 3, 1) := by decide +kernel
theorem dF_code_10 : decode (am_by jF_code) 10 = .ok (.iconst 3, 1) := by decide +kernel
theorem dF_code_11 : decode (am_by jF_code) 11 = .ok (.invokestatic 51, 3) := by decide +kernel
theorem dF_code_14 : decode (am_by jF_code) 14 = .ok (.ifCond .ne 5, 3) := by decide +kernel
theorem dF_code_17 : decode (am_by jF_code) 17 = .ok (.iconst (-1), 1) := by decide +kernel
theorem dF_code_18 : decode (am_by jF_code) 18 = .ok (.ireturn, 1) := by decide +kernel
theorem dF_code_19 : decode (am_by jF_code) 19 = .ok (.aload_n 0, 1) := by decide +kernel
theorem dF_code_20 : decode (am_by jF_code) 20 = .ok (.iload_n 1, 1) := by decide +kernel
theorem dF_code_21 : decode (am_by jF_code) 21 = .ok (.invokevirtual 63, 3) := by decide +kernel
theorem dF_code_24 : decode (am_by jF_code) 24 = .ok (.astore 4, 2) := by decide +kernel
theorem dF_code_26 : decode (am_by jF_code) 26 = .ok (.iload_n 2, 1) := by decide +kernel
theorem dF_code_27 : decode (am_by jF_code) 27 = .ok (.aload 4, 2) := by decide +kernel
theorem dF_code_29 : decode (am_by jF_code) 29 = .ok (.getfield 77, 3) := by decide +kernel
theorem dF_code_32 : decode (am_by jF_code) 32 = .ok (.invokestatic 51, 3) := by decide +kernel
theorem dF_code_35 : decode (am_by jF_code) 35 = .ok (.ifCond .ne 6, 3) := by decide +kernel
theorem dF_code_38 : decode (am_by jF_code) 38 = .ok (.bipush (-2), 2) := by decide +kernel
theorem dF_code_40 : decode (am_by jF_code) 40 = .ok (.ireturn, 1) := by decide +kernel
theorem dF_code_41 : decode (am_by jF_code) 41 = .ok (.iload_n 3, 1) := by decide +kernel
theorem dF_code_42 : decode (am_by jF_code) 42 = .ok (.ifCond .ne 11, 3) := by decide +kernel
theorem dF_code_45 : decode (am_by jF_code) 45 = .ok (.aload 4, 2) := by decide +kernel
theorem dF_code_47 : decode (am_by jF_code) 47 = .ok (.getfield 183, 3) := by decide +kernel
theorem dF_code_50 : decode (am_by jF_code) 50 = .ok (.iload_n 2, 1) := by decide +kernel
theorem dF_code_51 : decode (am_by jF_code) 51 = .ok (.iaload, 1) := by decide +kernel
theorem dF_code_52 : decode (am_by jF_code) 52 = .ok (.ireturn, 1) := by decide +kernel
theorem dF_code_53 : decode (am_by jF_code) 53 = .ok (.iload_n 3, 1) := by decide +kernel
theorem dF_code_54 : decode (am_by jF_code) 54 = .ok (.iconst 1, 1) := by decide +kernel
theorem dF_code_55 : decode (am_by jF_code) 55 = .ok (.if_icmp .ne 13, 3) := by decide +kernel
theorem dF_code_58 : decode (am_by jF_code) 58 = .ok (.aload 4, 2) := by decide +kernel
theorem dF_code_60 : decode (am_by jF_code) 60 = .ok (.getfield 158, 3) := by decide +kernel
theorem dF_code_63 : decode (am_by jF_code) 63 = .ok (.iload_n 2, 1) := by decide +kernel
theorem dF_code_64 : decode (am_by jF_code) 64 = .ok (.iaload, 1) := by decide +kernel
theorem dF_code_65 : decode (am_by jF_code) 65 = .ok (.goto 10, 3) := by decide +kernel
theorem dF_code_68 : decode (am_by jF_code) 68 = .ok (.aload 4, 2) := by decide +kernel
theorem dF_code_70 : decode (am_by jF_code) 70 = .ok (.getfield 186, 3) := by decide +kernel
theorem dF_code_73 : decode (am_by jF_code) 73 = .ok (.iload_n 2, 1) := by decide +kernel
theorem dF_code_74 : decode (am_by jF_code) 74 = .ok (.iaload, 1) := by decide +kernel
theorem dF_code_75 : decode (am_by jF_code) 75 = .ok (.ireturn, 1) := by decide +kernel
theorem dF_table_0 : decode (am_by jF_table) 0 = .ok (.iload_n 1, 1) := by decide +kernel
theorem dF_table_1 : decode (am_by jF_table) 1 = .ok (.bipush 6, 2) := by decide +kernel
theorem dF_table_3 : decode (am_by jF_table) 3 = .ok (.invokestatic 51, 3) := by decide +kernel
theorem dF_table_6 : decode (am_by jF_table) 6 = .ok (.ifCond .eq 11, 3) := by decide +kernel
theorem dF_table_9 : decode (am_by jF_table) 9 = .ok (.iload_n 3, 1) := by decide +kernel
theorem dF_table_10 : decode (am_by jF_table) 10 = .ok (.iconst 4, 1) := by decide +kernel
theorem dF_table_11 : decode (am_by jF_table) 11 = .ok (.invokestatic 51, 3) := by decide +kernel
theorem dF_table_14 : decode (am_by jF_table) 14 = .ok (.ifCond .ne 5, 3) := by decide +kernel
theorem dF_table_17 : decode (am_by jF_table) 17 = .ok (.iconst (-1), 1) := by decide +kernel
theorem dF_table_18 : decode (am_by jF_table) 18 = .ok (.ireturn, 1) := by decide +kernel
theorem dF_table_19 : decode (am_by jF_table) 19 = .ok (.aload_n 0, 1) := by decide +kernel
theorem dF_table_20 : decode (am_by jF_table) 20 = .ok (.iload_n 1, 1) := by decide +kernel
theorem dF_table_21 : decode (am_by jF_table) 21 = .ok (.invokevirtual 63, 3) := by decide +kernel
theorem dF_table_24 : decode (am_by jF_table) 24 = .ok (.astore 4, 2) := by decide +kernel
theorem dF_table_26 : decode (am_by jF_table) 26 = .ok (.iload_n 2, 1) := by decide +kernel
theorem dF_table_27 : decode (am_by jF_table) 27 = .ok (.iconst (-1), 1) := by decide +kernel
theorem dF_table_28 : decode (am_by jF_table) 28 = .ok (.if_icmp .ne 10, 3) := by decide +kernel
theorem dF_table_31 : decode (am_by jF_table) 31 = .ok (.aload 4, 2) := by decide +kernel
theorem dF_table_33 : decode (am_by jF_table) 33 = .ok (.iload_n 3, 1) := by decide +kernel
theorem dF_table_34 : decode (am_by jF_table) 34 = .ok (.invokevirtual 189, 3) := by decide +kernel
theorem dF_table_37 : decode (am_by jF_table) 37 = .ok (.ireturn, 1) := by decide +kernel
theorem dF_table_38 : decode (am_by jF_table) 38 = .ok (.iload_n 2, 1) := by decide +kernel
theorem dF_table_39 : decode (am_by jF_table) 39 = .ok (.aload 4, 2) := by decide +kernel
theorem dF_table_41 : decode (am_by jF_table) 41 = .ok (.getfield 88, 3) := by decide +kernel
theorem dF_table_44 : decode (am_by jF_table) 44 = .ok (.invokestatic 51, 3) := by decide +kernel
theorem dF_table_47 : decode (am_by jF_table) 47 = .ok (.ifCond .eq 13, 3) := by decide +kernel
theorem dF_table_50 : decode (am_by jF_table) 50 = .ok (.aload 4, 2) := by decide +kernel
theorem dF_table_52 : decode (am_by jF_table) 52 = .ok (.iload_n 2, 1) := by decide +kernel
theorem dF_table_53 : decode (am_by jF_table) 53 = .ok (.iload_n 3, 1) := by decide +kernel
theorem dF_table_54 : decode (am_by jF_table) 54 = .ok (.invokevirtual 193, 3) := by decide +kernel
theorem dF_table_57 : decode (am_by jF_table) 57 = .ok (.goto 5, 3) := by decide +kernel
theorem dF_table_60 : decode (am_by jF_table) 60 = .ok (.bipush (-2), 2) := by decide +kernel
theorem dF_table_62 : decode (am_by jF_table) 62 = .ok (.ireturn, 1) := by decide +kernel
theorem dF_writtenMethod_0 : decode (am_by jF_writtenMethod) 0 = .ok (.aload_n 0, 1) := by decide +kernel
theorem dF_writtenMethod_1 : decode (am_by jF_writtenMethod) 1 = .ok (.getfield 11, 3) := by decide +kernel
theorem dF_writtenMethod_4 : decode (am_by jF_writtenMethod) 4 = .ok (.aload_n 0, 1) := by decide +kernel
theorem dF_writtenMethod_5 : decode (am_by jF_writtenMethod) 5 = .ok (.getfield 47, 3) := by decide +kernel
theorem dF_writtenMethod_8 : decode (am_by jF_writtenMethod) 8 = .ok (.aaload, 1) := by decide +kernel
theorem dF_writtenMethod_9 : decode (am_by jF_writtenMethod) 9 = .ok (.getfield 196, 3) := by decide +kernel
theorem dF_writtenMethod_12 : decode (am_by jF_writtenMethod) 12 = .ok (.iload_n 1, 1) := by decide +kernel
theorem dF_writtenMethod_13 : decode (am_by jF_writtenMethod) 13 = .ok (.aaload, 1) := by decide +kernel
theorem dF_writtenMethod_14 : decode (am_by jF_writtenMethod) 14 = .ok (.areturn, 1) := by decide +kernel
theorem dF_allSound_0 : decode (am_by jF_allSound) 0 = .ok (.aload_n 1, 1) := by decide +kernel
theorem dF_allSound_1 : decode (am_by jF_allSound) 1 = .ok (.iload_n 2, 1) := by decide +kernel
theorem dF_allSound_2 : decode (am_by jF_allSound) 2 = .ok (.invokevirtual 200, 3) := by decide +kernel
theorem dF_allSound_5 : decode (am_by jF_allSound) 5 = .ok (.istore_n 3, 1) := by decide +kernel
theorem dF_allSound_6 : decode (am_by jF_allSound) 6 = .ok (.iconst 0, 1) := by decide +kernel
theorem dF_allSound_7 : decode (am_by jF_allSound) 7 = .ok (.istore 4, 2) := by decide +kernel
theorem dF_allSound_9 : decode (am_by jF_allSound) 9 = .ok (.iload 4, 2) := by decide +kernel
theorem dF_allSound_11 : decode (am_by jF_allSound) 11 = .ok (.bipush 6, 2) := by decide +kernel
theorem dF_allSound_13 : decode (am_by jF_allSound) 13 = .ok (.if_icmp .ge 33, 3) := by decide +kernel
theorem dF_allSound_16 : decode (am_by jF_allSound) 16 = .ok (.iload_n 3, 1) := by decide +kernel
theorem dF_allSound_17 : decode (am_by jF_allSound) 17 = .ok (.iload 4, 2) := by decide +kernel
theorem dF_allSound_19 : decode (am_by jF_allSound) 19 = .ok (.invokestatic 203, 3) := by decide +kernel
theorem dF_allSound_22 : decode (am_by jF_allSound) 22 = .ok (.ifCond .eq 18, 3) := by decide +kernel
theorem dF_allSound_25 : decode (am_by jF_allSound) 25 = .ok (.aload_n 0, 1) := by decide +kernel
theorem dF_allSound_26 : decode (am_by jF_allSound) 26 = .ok (.getfield 19, 3) := by decide +kernel
theorem dF_allSound_29 : decode (am_by jF_allSound) 29 = .ok (.aload_n 1, 1) := by decide +kernel
theorem dF_allSound_30 : decode (am_by jF_allSound) 30 = .ok (.iload 4, 2) := by decide +kernel
theorem dF_allSound_32 : decode (am_by jF_allSound) 32 = .ok (.invokevirtual 91, 3) := by decide +kernel
theorem dF_allSound_35 : decode (am_by jF_allSound) 35 = .ok (.ifCond .ne 5, 3) := by decide +kernel
theorem dF_allSound_38 : decode (am_by jF_allSound) 38 = .ok (.iconst 0, 1) := by decide +kernel
theorem dF_allSound_39 : decode (am_by jF_allSound) 39 = .ok (.ireturn, 1) := by decide +kernel
theorem dF_allSound_40 : decode (am_by jF_allSound) 40 = .ok (.iinc 4 1, 3) := by decide +kernel
theorem dF_allSound_43 : decode (am_by jF_allSound) 43 = .ok (.goto (-34), 3) := by decide +kernel
theorem dF_allSound_46 : decode (am_by jF_allSound) 46 = .ok (.iconst 1, 1) := by decide +kernel
theorem dF_allSound_47 : decode (am_by jF_allSound) 47 = .ok (.ireturn, 1) := by decide +kernel
theorem dF_isBelow_0 : decode (am_by jF_isBelow) 0 = .ok (.iload_n 0, 1) := by decide +kernel
theorem dF_isBelow_1 : decode (am_by jF_isBelow) 1 = .ok (.ifCond .lt 12, 3) := by decide +kernel
theorem dF_isBelow_4 : decode (am_by jF_isBelow) 4 = .ok (.iload_n 0, 1) := by decide +kernel
theorem dF_isBelow_5 : decode (am_by jF_isBelow) 5 = .ok (.iload_n 1, 1) := by decide +kernel
theorem dF_isBelow_6 : decode (am_by jF_isBelow) 6 = .ok (.if_icmp .ge 7, 3) := by decide +kernel
theorem dF_isBelow_9 : decode (am_by jF_isBelow) 9 = .ok (.iconst 1, 1) := by decide +kernel
theorem dF_isBelow_10 : decode (am_by jF_isBelow) 10 = .ok (.goto 4, 3) := by decide +kernel
theorem dF_isBelow_13 : decode (am_by jF_isBelow) 13 = .ok (.iconst 0, 1) := by decide +kernel
theorem dF_isBelow_14 : decode (am_by jF_isBelow) 14 = .ok (.ireturn, 1) := by decide +kernel
theorem dF_hasBit_0 : decode (am_by jF_hasBit) 0 = .ok (.iload_n 0, 1) := by decide +kernel
theorem dF_hasBit_1 : decode (am_by jF_hasBit) 1 = .ok (.iload_n 1, 1) := by decide +kernel
theorem dF_hasBit_2 : decode (am_by jF_hasBit) 2 = .ok (.ishr, 1) := by decide +kernel
theorem dF_hasBit_3 : decode (am_by jF_hasBit) 3 = .ok (.iconst 1, 1) := by decide +kernel
theorem dF_hasBit_4 : decode (am_by jF_hasBit) 4 = .ok (.iand, 1) := by decide +kernel
theorem dF_hasBit_5 : decode (am_by jF_hasBit) 5 = .ok (.ifCond .eq 7, 3) := by decide +kernel
theorem dF_hasBit_8 : decode (am_by jF_hasBit) 8 = .ok (.iconst 1, 1) := by decide +kernel
theorem dF_hasBit_9 : decode (am_by jF_hasBit) 9 = .ok (.goto 4, 3) := by decide +kernel
theorem dF_hasBit_12 : decode (am_by jF_hasBit) 12 = .ok (.iconst 0, 1) := by decide +kernel
theorem dF_hasBit_13 : decode (am_by jF_hasBit) 13 = .ok (.ireturn, 1) := by decide +kernel
theorem dF_isInstruction_0 : decode (am_by jF_isInstruction) 0 = .ok (.iload_n 0, 1) := by decide +kernel
theorem dF_isInstruction_1 : decode (am_by jF_isInstruction) 1 = .ok (.bipush 28, 2) := by decide +kernel
theorem dF_isInstruction_3 : decode (am_by jF_isInstruction) 3 = .ok (.invokestatic 51, 3) := by decide +kernel
theorem dF_isInstruction_6 : decode (am_by jF_isInstruction) 6 = .ok (.ifCond .eq 31, 3) := by decide +kernel
theorem dF_isInstruction_9 : decode (am_by jF_isInstruction) 9 = .ok (.iload_n 1, 1) := by decide +kernel
theorem dF_isInstruction_10 : decode (am_by jF_isInstruction) 10 = .ok (.getstatic 206, 3) := by decide +kernel
theorem dF_isInstruction_13 : decode (am_by jF_isInstruction) 13 = .ok (.iload_n 0, 1) := by decide +kernel
theorem dF_isInstruction_14 : decode (am_by jF_isInstruction) 14 = .ok (.iaload, 1) := by decide +kernel
theorem dF_isInstruction_15 : decode (am_by jF_isInstruction) 15 = .ok (.invokestatic 209, 3) := by decide +kernel
theorem dF_isInstruction_18 : decode (am_by jF_isInstruction) 18 = .ok (.ifCond .eq 19, 3) := by decide +kernel
theorem dF_isInstruction_21 : decode (am_by jF_isInstruction) 21 = .ok (.iload_n 2, 1) := by decide +kernel
theorem dF_isInstruction_22 : decode (am_by jF_isInstruction) 22 = .ok (.getstatic 212, 3) := by decide +kernel
theorem dF_isInstruction_25 : decode (am_by jF_isInstruction) 25 = .ok (.iload_n 0, 1) := by decide +kernel
theorem dF_isInstruction_26 : decode (am_by jF_isInstruction) 26 = .ok (.iaload, 1) := by decide +kernel
theorem dF_isInstruction_27 : decode (am_by jF_isInstruction) 27 = .ok (.invokestatic 209, 3) := by decide +kernel
theorem dF_isInstruction_30 : decode (am_by jF_isInstruction) 30 = .ok (.ifCond .eq 7, 3) := by decide +kernel
theorem dF_isInstruction_33 : decode (am_by jF_isInstruction) 33 = .ok (.iconst 1, 1) := by decide +kernel
theorem dF_isInstruction_34 : decode (am_by jF_isInstruction) 34 = .ok (.goto 4, 3) := by decide +kernel
theorem dF_isInstruction_37 : decode (am_by jF_isInstruction) 37 = .ok (.iconst 0, 1) := by decide +kernel
theorem dF_isInstruction_38 : decode (am_by jF_isInstruction) 38 = .ok (.ireturn, 1) := by decide +kernel
theorem dF_isOperand_0 : decode (am_by jF_isOperand) 0 = .ok (.iload_n 1, 1) := by decide +kernel
theorem dF_isOperand_1 : decode (am_by jF_isOperand) 1 = .ok (.iconst (-1), 1) := by decide +kernel
theorem dF_isOperand_2 : decode (am_by jF_isOperand) 2 = .ok (.if_icmp .eq 19, 3) := by decide +kernel
theorem dF_isOperand_5 : decode (am_by jF_isOperand) 5 = .ok (.iload_n 1, 1) := by decide +kernel
theorem dF_isOperand_6 : decode (am_by jF_isOperand) 6 = .ok (.bipush 99, 2) := by decide +kernel
theorem dF_isOperand_8 : decode (am_by jF_isOperand) 8 = .ok (.if_icmp .eq 13, 3) := by decide +kernel
theorem dF_isOperand_11 : decode (am_by jF_isOperand) 11 = .ok (.iload_n 0, 1) := by decide +kernel
theorem dF_isOperand_12 : decode (am_by jF_isOperand) 12 = .ok (.iload_n 1, 1) := by decide +kernel
theorem dF_isOperand_13 : decode (am_by jF_isOperand) 13 = .ok (.iconst 1, 1) := by decide +kernel
theorem dF_isOperand_14 : decode (am_by jF_isOperand) 14 = .ok (.iadd, 1) := by decide +kernel
theorem dF_isOperand_15 : decode (am_by jF_isOperand) 15 = .ok (.invokestatic 51, 3) := by decide +kernel
theorem dF_isOperand_18 : decode (am_by jF_isOperand) 18 = .ok (.ifCond .eq 7, 3) := by decide +kernel
theorem dF_isOperand_21 : decode (am_by jF_isOperand) 21 = .ok (.iconst 1, 1) := by decide +kernel
theorem dF_isOperand_22 : decode (am_by jF_isOperand) 22 = .ok (.goto 4, 3) := by decide +kernel
theorem dF_isOperand_25 : decode (am_by jF_isOperand) 25 = .ok (.iconst 0, 1) := by decide +kernel
theorem dF_isOperand_26 : decode (am_by jF_isOperand) 26 = .ok (.ireturn, 1) := by decide +kernel
theorem dF_isJump_0 : decode (am_by jF_isJump) 0 = .ok (.iload_n 0, 1) := by decide +kernel
theorem dF_isJump_1 : decode (am_by jF_isJump) 1 = .ok (.bipush 11, 2) := by decide +kernel
theorem dF_isJump_3 : decode (am_by jF_isJump) 3 = .ok (.if_icmp .eq 15, 3) := by decide +kernel
theorem dF_isJump_6 : decode (am_by jF_isJump) 6 = .ok (.iload_n 0, 1) := by decide +kernel
theorem dF_isJump_7 : decode (am_by jF_isJump) 7 = .ok (.bipush 12, 2) := by decide +kernel
theorem dF_isJump_9 : decode (am_by jF_isJump) 9 = .ok (.if_icmp .eq 9, 3) := by decide +kernel
theorem dF_isJump_12 : decode (am_by jF_isJump) 12 = .ok (.iload_n 0, 1) := by decide +kernel
theorem dF_isJump_13 : decode (am_by jF_isJump) 13 = .ok (.bipush 17, 2) := by decide +kernel
theorem dF_isJump_15 : decode (am_by jF_isJump) 15 = .ok (.if_icmp .ne 7, 3) := by decide +kernel
theorem dF_isJump_18 : decode (am_by jF_isJump) 18 = .ok (.iconst 1, 1) := by decide +kernel
theorem dF_isJump_19 : decode (am_by jF_isJump) 19 = .ok (.goto 4, 3) := by decide +kernel
theorem dF_isJump_22 : decode (am_by jF_isJump) 22 = .ok (.iconst 0, 1) := by decide +kernel
theorem dF_isJump_23 : decode (am_by jF_isJump) 23 = .ok (.ireturn, 1) := by decide +kernel
