theorem dX11_init_0 : decode cX11_init 0 = .ok (.aload_n 0, 1) := by decide +kernel
theorem dX11_init_1 : decode cX11_init 1 = .ok (.invokespecial 1, 3) := by decide +kernel
theorem dX11_init_4 : decode cX11_init 4 = .ok (.aload_n 0, 1) := by decide +kernel
theorem dX11_init_5 : decode cX11_init 5 = .ok (.new 7, 3) := by decide +kernel
theorem dX11_init_8 : decode cX11_init 8 = .ok (.dup, 1) := by decide +kernel
theorem dX11_init_9 : decode cX11_init 9 = .ok (.invokespecial 9, 3) := by decide +kernel
theorem dX11_init_12 : decode cX11_init 12 = .ok (.putfield 10, 3) := by decide +kernel
theorem dX11_init_15 : decode cX11_init 15 = .ok (.aload_n 0, 1) := by decide +kernel
theorem dX11_init_16 : decode cX11_init 16 = .ok (.new 16, 3) := by decide +kernel
theorem dX11_init_19 : decode cX11_init 19 = .ok (.dup, 1) := by decide +kernel
theorem dX11_init_20 : decode cX11_init 20 = .ok (.invokespecial 18, 3) := by decide +kernel
theorem dX11_init_23 : decode cX11_init 23 = .ok (.putfield 19, 3) := by decide +kernel
theorem dX11_init_26 : decode cX11_init 26 = .ok (.aload_n 0, 1) := by decide +kernel
theorem dX11_init_27 : decode cX11_init 27 = .ok (.new 16, 3) := by decide +kernel
theorem dX11_init_30 : decode cX11_init 30 = .ok (.dup, 1) := by decide +kernel
theorem dX11_init_31 : decode cX11_init 31 = .ok (.invokespecial 18, 3) := by decide +kernel
theorem dX11_init_34 : decode cX11_init 34 = .ok (.putfield 23, 3) := by decide +kernel
theorem dX11_init_37 : decode cX11_init 37 = .ok (.aload_n 0, 1) := by decide +kernel
theorem dX11_init_38 : decode cX11_init 38 = .ok (.iconst 2, 1) := by decide +kernel
theorem dX11_init_39 : decode cX11_init 39 = .ok (.anewarray 16, 3) := by decide +kernel
theorem dX11_init_42 : decode cX11_init 42 = .ok (.putfield 26, 3) := by decide +kernel
theorem dX11_init_45 : decode cX11_init 45 = .ok (.aload_n 0, 1) := by decide +kernel
theorem dX11_init_46 : decode cX11_init 46 = .ok (.new 30, 3) := by decide +kernel
theorem dX11_init_49 : decode cX11_init 49 = .ok (.dup, 1) := by decide +kernel
theorem dX11_init_50 : decode cX11_init 50 = .ok (.invokespecial 32, 3) := by decide +kernel
theorem dX11_init_53 : decode cX11_init 53 = .ok (.putfield 33, 3) := by decide +kernel
theorem dX11_init_56 : decode cX11_init 56 = .ok (.aload_n 0, 1) := by decide +kernel
theorem dX11_init_57 : decode cX11_init 57 = .ok (.new 37, 3) := by decide +kernel
theorem dX11_init_60 : decode cX11_init 60 = .ok (.dup, 1) := by decide +kernel
theorem dX11_init_61 : decode cX11_init 61 = .ok (.invokespecial 39, 3) := by decide +kernel
theorem dX11_init_64 : decode cX11_init 64 = .ok (.putfield 40, 3) := by decide +kernel
theorem dX11_init_67 : decode cX11_init 67 = .ok (.aload_n 0, 1) := by decide +kernel
theorem dX11_init_68 : decode cX11_init 68 = .ok (.new 44, 3) := by decide +kernel
theorem dX11_init_71 : decode cX11_init 71 = .ok (.dup, 1) := by decide +kernel
theorem dX11_init_72 : decode cX11_init 72 = .ok (.invokespecial 46, 3) := by decide +kernel
theorem dX11_init_75 : decode cX11_init 75 = .ok (.putfield 47, 3) := by decide +kernel
theorem dX11_init_78 : decode cX11_init 78 = .ok (.aload_n 0, 1) := by decide +kernel
theorem dX11_init_79 : decode cX11_init 79 = .ok (.new 51, 3) := by decide +kernel
theorem dX11_init_82 : decode cX11_init 82 = .ok (.dup, 1) := by decide +kernel
theorem dX11_init_83 : decode cX11_init 83 = .ok (.invokespecial 53, 3) := by decide +kernel
theorem dX11_init_86 : decode cX11_init 86 = .ok (.putfield 54, 3) := by decide +kernel
theorem dX11_init_89 : decode cX11_init 89 = .ok (.aload_n 0, 1) := by decide +kernel
theorem dX11_init_90 : decode cX11_init 90 = .ok (.getfield 19, 3) := by decide +kernel
theorem dX11_init_93 : decode cX11_init 93 = .ok (.invokevirtual 58, 3) := by decide +kernel
theorem dX11_init_96 : decode cX11_init 96 = .ok (.return_, 1) := by decide +kernel
theorem dX11_appendText_0 : decode cX11_appendText 0 = .ok (.aload_n 0, 1) := by decide +kernel
theorem dX11_appendText_1 : decode cX11_appendText 1 = .ok (.getfield 47, 3) := by decide +kernel
theorem dX11_appendText_4 : decode cX11_appendText 4 = .ok (.invokevirtual 61, 3) := by decide +kernel
theorem dX11_appendText_7 : decode cX11_appendText 7 = .ok (.ifCond .ne 11, 3) := by decide +kernel
theorem dX11_appendText_10 : decode cX11_appendText 10 = .ok (.new 65, 3) := by decide +kernel
theorem dX11_appendText_13 : decode cX11_appendText 13 = .ok (.dup, 1) := by decide +kernel
theorem dX11_appendText_14 : decode cX11_appendText 14 = .ok (.invokespecial 67, 3) := by decide +kernel
theorem dX11_appendText_17 : decode cX11_appendText 17 = .ok (.athrow, 1) := by decide +kernel
theorem dX11_appendText_18 : decode cX11_appendText 18 = .ok (.aload_n 0, 1) := by decide +kernel
theorem dX11_appendText_19 : decode cX11_appendText 19 = .ok (.getfield 47, 3) := by decide +kernel
theorem dX11_appendText_22 : decode cX11_appendText 22 = .ok (.iload_n 1, 1) := by decide +kernel
theorem dX11_appendText_23 : decode cX11_appendText 23 = .ok (.invokevirtual 68, 3) := by decide +kernel
theorem dX11_appendText_26 : decode cX11_appendText 26 = .ok (.ireturn, 1) := by decide +kernel
theorem dX11_truncateText_0 : decode cX11_truncateText 0 = .ok (.iload_n 1, 1) := by decide +kernel
theorem dX11_truncateText_1 : decode cX11_truncateText 1 = .ok (.iconst 0, 1) := by decide +kernel
theorem dX11_truncateText_2 : decode cX11_truncateText 2 = .ok (.aload_n 0, 1) := by decide +kernel
theorem dX11_truncateText_3 : decode cX11_truncateText 3 = .ok (.getfield 47, 3) := by decide +kernel
theorem dX11_truncateText_6 : decode cX11_truncateText 6 = .ok (.getfield 72, 3) := by decide +kernel
theorem dX11_truncateText_9 : decode cX11_truncateText 9 = .ok (.invokestatic 76, 3) := by decide +kernel
theorem dX11_truncateText_12 : decode cX11_truncateText 12 = .ok (.aload_n 0, 1) := by decide +kernel
theorem dX11_truncateText_13 : decode cX11_truncateText 13 = .ok (.getfield 47, 3) := by decide +kernel
theorem dX11_truncateText_16 : decode cX11_truncateText 16 = .ok (.iload_n 1, 1) := by decide +kernel
theorem dX11_truncateText_17 : decode cX11_truncateText 17 = .ok (.putfield 72, 3) := by decide +kernel
theorem dX11_truncateText_20 : decode cX11_truncateText 20 = .ok (.iload_n 1, 1) := by decide +kernel
theorem dX11_truncateText_21 : decode cX11_truncateText 21 = .ok (.ireturn, 1) := by decide +kernel
theorem dX11_runScript_0 : decode cX11_runScript 0 = .ok (.aload_n 0, 1) := by decide +kernel
theorem dX11_runScript_1 : decode cX11_runScript 1 = .ok (.getfield 47, 3) := by decide +kernel
theorem dX11_runScript_4 : decode cX11_runScript 4 = .ok (.invokevirtual 80, 3) := by decide +kernel
theorem dX11_runScript_7 : decode cX11_runScript 7 = .ok (.istore_n 1, 1) := by decide +kernel
theorem dX11_runScript_8 : decode cX11_runScript 8 = .ok (.aload_n 0, 1) := by decide +kernel
theorem dX11_runScript_9 : decode cX11_runScript 9 = .ok (.getfield 47, 3) := by decide +kernel
theorem dX11_runScript_12 : decode cX11_runScript 12 = .ok (.iconst 0, 1) := by decide +kernel
theorem dX11_runScript_13 : decode cX11_runScript 13 = .ok (.putfield 72, 3) := by decide +kernel
theorem dX11_runScript_16 : decode cX11_runScript 16 = .ok (.iload_n 1, 1) := by decide +kernel
theorem dX11_runScript_17 : decode cX11_runScript 17 = .ok (.ifCond .ne 5, 3) := by decide +kernel
theorem dX11_runScript_20 : decode cX11_runScript 20 = .ok (.iconst (-1), 1) := by decide +kernel
theorem dX11_runScript_21 : decode cX11_runScript 21 = .ok (.ireturn, 1) := by decide +kernel
theorem dX11_runScript_22 : decode cX11_runScript 22 = .ok (.iconst 0, 1) := by decide +kernel
theorem dX11_runScript_23 : decode cX11_runScript 23 = .ok (.istore_n 2, 1) := by decide +kernel
theorem dX11_runScript_24 : decode cX11_runScript 24 = .ok (.iload_n 2, 1) := by decide +kernel
theorem dX11_runScript_25 : decode cX11_runScript 25 = .ok (.aload_n 0, 1) := by decide +kernel
theorem dX11_runScript_26 : decode cX11_runScript 26 = .ok (.getfield 47, 3) := by decide +kernel
theorem dX11_runScript_29 : decode cX11_runScript 29 = .ok (.getfield 83, 3) := by decide +kernel
theorem dX11_runScript_32 : decode cX11_runScript 32 = .ok (.if_icmp .ge 17, 3) := by decide +kernel
theorem dX11_runScript_35 : decode cX11_runScript 35 = .ok (.aload_n 0, 1) := by decide +kernel
theorem dX11_runScript_36 : decode cX11_runScript 36 = .ok (.iload_n 2, 1) := by decide +kernel
theorem dX11_runScript_37 : decode cX11_runScript 37 = .ok (.invokevirtual 86, 3) := by decide +kernel
theorem dX11_runScript_40 : decode cX11_runScript 40 = .ok (.ifCond .lt 9, 3) := by decide +kernel
theorem dX11_runScript_43 : decode cX11_runScript 43 = .ok (.iinc 2 1, 3) := by decide +kernel
theorem dX11_runScript_46 : decode cX11_runScript 46 = .ok (.goto (-22), 3) := by decide +kernel
theorem dX11_runScript_49 : decode cX11_runScript 49 = .ok (.iload_n 2, 1) := by decide +kernel
theorem dX11_runScript_50 : decode cX11_runScript 50 = .ok (.ireturn, 1) := by decide +kernel
theorem dX11_errorCode_0 : decode cX11_errorCode 0 = .ok (.aload_n 0, 1) := by decide +kernel
theorem dX11_errorCode_1 : decode cX11_errorCode 1 = .ok (.getfield 47, 3) := by decide +kernel
theorem dX11_errorCode_4 : decode cX11_errorCode 4 = .ok (.getfield 89, 3) := by decide +kernel
theorem dX11_errorCode_7 : decode cX11_errorCode 7 = .ok (.ireturn, 1) := by decide +kernel
theorem dX11_errorPosition_0 : decode cX11_errorPosition 0 = .ok (.aload_n 0, 1) := by decide +kernel
theorem dX11_errorPosition_1 : decode cX11_errorPosition 1 = .ok (.getfield 47, 3) := by decide +kernel
theorem dX11_errorPosition_4 : decode cX11_errorPosition 4 = .ok (.getfield 92, 3) := by decide +kernel
theorem dX11_errorPosition_7 : decode cX11_errorPosition 7 = .ok (.ireturn, 1) := by decide +kernel
theorem dX11_set_0 : decode cX11_set 0 = .ok (.iload_n 1, 1) := by decide +kernel
theorem dX11_set_1 : decode cX11_set 1 = .ok (.iconst 0, 1) := by decide +kernel
theorem dX11_set_2 : decode cX11_set 2 = .ok (.bipush 6, 2) := by decide +kernel
theorem dX11_set_4 : decode cX11_set 4 = .ok (.invokestatic 76, 3) := by decide +kernel
theorem dX11_set_7 : decode cX11_set 7 = .ok (.iload_n 2, 1) := by decide +kernel
theorem dX11_set_8 : decode cX11_set 8 = .ok (.aload_n 0, 1) := by decide +kernel
theorem dX11_set_9 : decode cX11_set 9 = .ok (.getfield 10, 3) := by decide +kernel
theorem dX11_set_12 : decode cX11_set 12 = .ok (.iload_n 1, 1) := by decide +kernel
theorem dX11_set_13 : decode cX11_set 13 = .ok (.invokevirtual 95, 3) := by decide +kernel
theorem dX11_set_16 : decode cX11_set 16 = .ok (.aload_n 0, 1) := by decide +kernel
theorem dX11_set_17 : decode cX11_set 17 = .ok (.getfield 10, 3) := by decide +kernel
theorem dX11_set_20 : decode cX11_set 20 = .ok (.iload_n 1, 1) := by decide +kernel
theorem dX11_set_21 : decode cX11_set 21 = .ok (.invokevirtual 98, 3) := by decide +kernel
theorem dX11_set_24 : decode cX11_set 24 = .ok (.invokestatic 76, 3) := by decide +kernel
theorem dX11_set_27 : decode cX11_set 27 = .ok (.aload_n 0, 1) := by decide +kernel
theorem dX11_set_28 : decode cX11_set 28 = .ok (.getfield 10, 3) := by decide +kernel
theorem dX11_set_31 : decode cX11_set 31 = .ok (.iload_n 1, 1) := by decide +kernel
theorem dX11_set_32 : decode cX11_set 32 = .ok (.invokevirtual 101, 3) := by decide +kernel
theorem dX11_set_35 : decode cX11_set 35 = .ok (.istore_n 3, 1) := by decide +kernel
theorem dX11_set_36 : decode cX11_set 36 = .ok (.aload_n 0, 1) := by decide +kernel
theorem dX11_set_37 : decode cX11_set 37 = .ok (.getfield 10, 3) := by decide +kernel
theorem dX11_set_40 : decode cX11_set 40 = .ok (.iload_n 1, 1) := by decide +kernel
theorem dX11_set_41 : decode cX11_set 41 = .ok (.iload_n 2, 1) := by decide +kernel
theorem dX11_set_42 : decode cX11_set 42 = .ok (.invokevirtual 104, 3) := by decide +kernel
theorem dX11_set_45 : decode cX11_set 45 = .ok (.iload_n 3, 1) := by decide +kernel
theorem dX11_set_46 : decode cX11_set 46 = .ok (.ireturn, 1) := by decide +kernel
theorem dX11_count_0 : decode cX11_count 0 = .ok (.iload_n 1, 1) := by decide +kernel
theorem dX11_count_1 : decode cX11_count 1 = .ok (.iconst 0, 1) := by decide +kernel
theorem dX11_count_2 : decode cX11_count 2 = .ok (.bipush 17, 2) := by decide +kernel
theorem dX11_count_4 : decode cX11_count 4 = .ok (.invokestatic 76, 3) := by decide +kernel
theorem dX11_count_7 : decode cX11_count 7 = .ok (.iload_n 1, 1) := by decide +kernel
theorem dX11_count_8 : decode cX11_count 8 = .ok (.bipush 6, 2) := by decide +kernel
theorem dX11_count_10 : decode cX11_count 10 = .ok (.if_icmp .gt 12, 3) := by decide +kernel
theorem dX11_count_13 : decode cX11_count 13 = .ok (.aload_n 0, 1) := by decide +kernel
theorem dX11_count_14 : decode cX11_count 14 = .ok (.getfield 10, 3) := by decide +kernel
theorem dX11_count_17 : decode cX11_count 17 = .ok (.iload_n 1, 1) := by decide +kernel
theorem dX11_count_18 : decode cX11_count 18 = .ok (.invokevirtual 101, 3) := by decide +kernel
theorem dX11_count_21 : decode cX11_count 21 = .ok (.ireturn, 1) := by decide +kernel
theorem dX11_count_22 : decode cX11_count 22 = .ok (.iload_n 1, 1) := by decide +kernel
theorem dX11_count_23 : decode cX11_count 23 = .ok (.bipush 12, 2) := by decide +kernel
theorem dX11_count_25 : decode cX11_count 25 = .ok (.if_icmp .lt 21, 3) := by decide +kernel
theorem dX11_count_28 : decode cX11_count 28 = .ok (.iload_n 1, 1) := by decide +kernel
theorem dX11_count_29 : decode cX11_count 29 = .ok (.bipush 15, 2) := by decide +kernel
theorem dX11_count_31 : decode cX11_count 31 = .ok (.if_icmp .gt 15, 3) := by decide +kernel
theorem dX11_count_34 : decode cX11_count 34 = .ok (.aload_n 0, 1) := by decide +kernel
theorem dX11_count_35 : decode cX11_count 35 = .ok (.getfield 19, 3) := by decide +kernel
theorem dX11_count_38 : decode cX11_count 38 = .ok (.iload_n 1, 1) := by decide +kernel
theorem dX11_count_39 : decode cX11_count 39 = .ok (.bipush 12, 2) := by decide +kernel
theorem dX11_count_41 : decode cX11_count 41 = .ok (.isub, 1) := by decide +kernel
theorem dX11_count_42 : decode cX11_count 42 = .ok (.invokevirtual 108, 3) := by decide +kernel
theorem dX11_count_45 : decode cX11_count 45 = .ok (.ireturn, 1) := by decide +kernel
theorem dX11_count_46 : decode cX11_count 46 = .ok (.iload_n 1, 1) := by decide +kernel
theorem dX11_count_47 : decode cX11_count 47 = .ok (.tableswitch 101 7 16 #[53, 61, 69, 77, 85, 101, 101, 101, 101, 93], 53) := by decide +kernel
theorem dX11_count_100 : decode cX11_count 100 = .ok (.aload_n 0, 1) := by decide +kernel
theorem dX11_count_101 : decode cX11_count 101 = .ok (.getfield 19, 3) := by decide +kernel
theorem dX11_count_104 : decode cX11_count 104 = .ok (.getfield 111, 3) := by decide +kernel
theorem dX11_count_107 : decode cX11_count 107 = .ok (.ireturn, 1) := by decide +kernel
theorem dX11_count_108 : decode cX11_count 108 = .ok (.aload_n 0, 1) := by decide +kernel
theorem dX11_count_109 : decode cX11_count 109 = .ok (.getfield 19, 3) := by decide +kernel
theorem dX11_count_112 : decode cX11_count 112 = .ok (.invokevirtual 114, 3) := by decide +kernel
theorem dX11_count_115 : decode cX11_count 115 = .ok (.ireturn, 1) := by decide +kernel
theorem dX11_count_116 : decode cX11_count 116 = .ok (.aload_n 0, 1) := by decide +kernel
theorem dX11_count_117 : decode cX11_count 117 = .ok (.getfield 19, 3) := by decide +kernel
theorem dX11_count_120 : decode cX11_count 120 = .ok (.invokevirtual 118, 3) := by decide +kernel
theorem dX11_count_123 : decode cX11_count 123 = .ok (.ireturn, 1) := by decide +kernel
theorem dX11_count_124 : decode cX11_count 124 = .ok (.aload_n 0, 1) := by decide +kernel
theorem dX11_count_125 : decode cX11_count 125 = .ok (.getfield 19, 3) := by decide +kernel
theorem dX11_count_128 : decode cX11_count 128 = .ok (.invokevirtual 121, 3) := by decide +kernel
theorem dX11_count_131 : decode cX11_count 131 = .ok (.ireturn, 1) := by decide +kernel
theorem dX11_count_132 : decode cX11_count 132 = .ok (.aload_n 0, 1) := by decide +kernel
theorem dX11_count_133 : decode cX11_count 133 = .ok (.getfield 19, 3) := by decide +kernel
theorem dX11_count_136 : decode cX11_count 136 = .ok (.getfield 124, 3) := by decide +kernel
theorem dX11_count_139 : decode cX11_count 139 = .ok (.ireturn, 1) := by decide +kernel
theorem dX11_count_140 : decode cX11_count 140 = .ok (.aload_n 0, 1) := by decide +kernel
theorem dX11_count_141 : decode cX11_count 141 = .ok (.getfield 33, 3) := by decide +kernel
theorem dX11_count_144 : decode cX11_count 144 = .ok (.getfield 127, 3) := by decide +kernel
theorem dX11_count_147 : decode cX11_count 147 = .ok (.ireturn, 1) := by decide +kernel
theorem dX11_count_148 : decode cX11_count 148 = .ok (.aload_n 0, 1) := by decide +kernel
theorem dX11_count_149 : decode cX11_count 149 = .ok (.getfield 40, 3) := by decide +kernel
theorem dX11_count_152 : decode cX11_count 152 = .ok (.invokevirtual 130, 3) := by decide +kernel
theorem dX11_count_155 : decode cX11_count 155 = .ok (.ireturn, 1) := by decide +kernel
theorem dX11_branch_0 : decode cX11_branch 0 = .ok (.aload_n 0, 1) := by decide +kernel
theorem dX11_branch_1 : decode cX11_branch 1 = .ok (.iload_n 1, 1) := by decide +kernel
theorem dX11_branch_2 : decode cX11_branch 2 = .ok (.invokevirtual 133, 3) := by decide +kernel
theorem dX11_branch_5 : decode cX11_branch 5 = .ok (.astore_n 3, 1) := by decide +kernel
theorem dX11_branch_6 : decode cX11_branch 6 = .ok (.iload_n 2, 1) := by decide +kernel
theorem dX11_branch_7 : decode cX11_branch 7 = .ok (.iconst 0, 1) := by decide +kernel
theorem dX11_branch_8 : decode cX11_branch 8 = .ok (.bipush 7, 2) := by decide +kernel
theorem dX11_branch_10 : decode cX11_branch 10 = .ok (.invokestatic 76, 3) := by decide +kernel
theorem dX11_branch_13 : decode cX11_branch 13 = .ok (.iload_n 2, 1) := by decide +kernel
theorem dX11_branch_14 : decode cX11_branch 14 = .ok (.tableswitch 85 0 6 #[42, 47, 52, 57, 62, 67, 76], 42) := by decide +kernel
theorem dX11_branch_56 : decode cX11_branch 56 = .ok (.aload_n 3, 1) := by decide +kernel
theorem dX11_branch_57 : decode cX11_branch 57 = .ok (.getfield 137, 3) := by decide +kernel
theorem dX11_branch_60 : decode cX11_branch 60 = .ok (.ireturn, 1) := by decide +kernel
theorem dX11_branch_61 : decode cX11_branch 61 = .ok (.aload_n 3, 1) := by decide +kernel
theorem dX11_branch_62 : decode cX11_branch 62 = .ok (.getfield 142, 3) := by decide +kernel
theorem dX11_branch_65 : decode cX11_branch 65 = .ok (.ireturn, 1) := by decide +kernel
theorem dX11_branch_66 : decode cX11_branch 66 = .ok (.aload_n 3, 1) := by decide +kernel
theorem dX11_branch_67 : decode cX11_branch 67 = .ok (.getfield 145, 3) := by decide +kernel
theorem dX11_branch_70 : decode cX11_branch 70 = .ok (.ireturn, 1) := by decide +kernel
theorem dX11_branch_71 : decode cX11_branch 71 = .ok (.aload_n 3, 1) := by decide +kernel
theorem dX11_branch_72 : decode cX11_branch 72 = .ok (.getfield 148, 3) := by decide +kernel
theorem dX11_branch_75 : decode cX11_branch 75 = .ok (.ireturn, 1) := by decide +kernel
theorem dX11_branch_76 : decode cX11_branch 76 = .ok (.aload_n 3, 1) := by decide +kernel
theorem dX11_branch_77 : decode cX11_branch 77 = .ok (.getfield 151, 3) := by decide +kernel
theorem dX11_branch_80 : decode cX11_branch 80 = .ok (.ireturn, 1) := by decide +kernel
theorem dX11_branch_81 : decode cX11_branch 81 = .ok (.aload_n 0, 1) := by decide +kernel
theorem dX11_branch_82 : decode cX11_branch 82 = .ok (.getfield 19, 3) := by decide +kernel
theorem dX11_branch_85 : decode cX11_branch 85 = .ok (.aload_n 3, 1) := by decide +kernel
theorem dX11_branch_86 : decode cX11_branch 86 = .ok (.invokevirtual 154, 3) := by decide +kernel
theorem dX11_branch_89 : decode cX11_branch 89 = .ok (.ireturn, 1) := by decide +kernel
theorem dX11_branch_90 : decode cX11_branch 90 = .ok (.aload_n 0, 1) := by decide +kernel
theorem dX11_branch_91 : decode cX11_branch 91 = .ok (.getfield 19, 3) := by decide +kernel
theorem dX11_branch_94 : decode cX11_branch 94 = .ok (.aload_n 3, 1) := by decide +kernel
theorem dX11_branch_95 : decode cX11_branch 95 = .ok (.invokevirtual 158, 3) := by decide +kernel
theorem dX11_branch_98 : decode cX11_branch 98 = .ok (.ireturn, 1) := by decide +kernel
theorem dX11_branch_99 : decode cX11_branch 99 = .ok (.aload_n 3, 1) := by decide +kernel
theorem dX11_branch_100 : decode cX11_branch 100 = .ok (.getfield 161, 3) := by decide +kernel
theorem dX11_branch_103 : decode cX11_branch 103 = .ok (.ireturn, 1) := by decide +kernel
theorem dX11_entry_0 : decode cX11_entry 0 = .ok (.aload_n 0, 1) := by decide +kernel
theorem dX11_entry_1 : decode cX11_entry 1 = .ok (.iload_n 1, 1) := by decide +kernel
theorem dX11_entry_2 : decode cX11_entry 2 = .ok (.invokevirtual 133, 3) := by decide +kernel
theorem dX11_entry_5 : decode cX11_entry 5 = .ok (.astore 4, 2) := by decide +kernel
theorem dX11_entry_7 : decode cX11_entry 7 = .ok (.aload 4, 2) := by decide +kernel
theorem dX11_entry_9 : decode cX11_entry 9 = .ok (.iload_n 2, 1) := by decide +kernel
theorem dX11_entry_10 : decode cX11_entry 10 = .ok (.invokevirtual 164, 3) := by decide +kernel
theorem dX11_entry_13 : decode cX11_entry 13 = .ok (.astore 5, 2) := by decide +kernel
theorem dX11_entry_15 : decode cX11_entry 15 = .ok (.aload 5, 2) := by decide +kernel
theorem dX11_entry_17 : decode cX11_entry 17 = .ok (.ifnonnull 11, 3) := by decide +kernel
theorem dX11_entry_20 : decode cX11_entry 20 = .ok (.new 168, 3) := by decide +kernel
theorem dX11_entry_23 : decode cX11_entry 23 = .ok (.dup, 1) := by decide +kernel
theorem dX11_entry_24 : decode cX11_entry 24 = .ok (.invokespecial 170, 3) := by decide +kernel
theorem dX11_entry_27 : decode cX11_entry 27 = .ok (.athrow, 1) := by decide +kernel
theorem dX11_entry_28 : decode cX11_entry 28 = .ok (.iload_n 3, 1) := by decide +kernel
theorem dX11_entry_29 : decode cX11_entry 29 = .ok (.iconst 0, 1) := by decide +kernel
theorem dX11_entry_30 : decode cX11_entry 30 = .ok (.iconst 4, 1) := by decide +kernel
theorem dX11_entry_31 : decode cX11_entry 31 = .ok (.invokestatic 76, 3) := by decide +kernel
theorem dX11_entry_34 : decode cX11_entry 34 = .ok (.iload_n 3, 1) := by decide +kernel
theorem dX11_entry_35 : decode cX11_entry 35 = .ok (.tableswitch 53 0 3 #[29, 35, 41, 47], 29) := by decide +kernel
theorem dX11_entry_64 : decode cX11_entry 64 = .ok (.aload 5, 2) := by decide +kernel
theorem dX11_entry_66 : decode cX11_entry 66 = .ok (.getfield 171, 3) := by decide +kernel
theorem dX11_entry_69 : decode cX11_entry 69 = .ok (.ireturn, 1) := by decide +kernel
theorem dX11_entry_70 : decode cX11_entry 70 = .ok (.aload 5, 2) := by decide +kernel
theorem dX11_entry_72 : decode cX11_entry 72 = .ok (.getfield 174, 3) := by decide +kernel
theorem dX11_entry_75 : decode cX11_entry 75 = .ok (.ireturn, 1) := by decide +kernel
theorem dX11_entry_76 : decode cX11_entry 76 = .ok (.aload 5, 2) := by decide +kernel
theorem dX11_entry_78 : decode cX11_entry 78 = .ok (.getfield 177, 3) := by decide +kernel
theorem dX11_entry_81 : decode cX11_entry 81 = .ok (.ireturn, 1) := by decide +kernel
theorem dX11_entry_82 : decode cX11_entry 82 = .ok (.aload 5, 2) := by decide +kernel
theorem dX11_entry_84 : decode cX11_entry 84 = .ok (.getfield 180, 3) := by decide +kernel
theorem dX11_entry_87 : decode cX11_entry 87 = .ok (.ireturn, 1) := by decide +kernel
theorem dX11_entry_88 : decode cX11_entry 88 = .ok (.aload_n 0, 1) := by decide +kernel
theorem dX11_entry_89 : decode cX11_entry 89 = .ok (.getfield 19, 3) := by decide +kernel
theorem dX11_entry_92 : decode cX11_entry 92 = .ok (.aload 4, 2) := by decide +kernel
theorem dX11_entry_94 : decode cX11_entry 94 = .ok (.iload_n 2, 1) := by decide +kernel
theorem dX11_entry_95 : decode cX11_entry 95 = .ok (.invokevirtual 183, 3) := by decide +kernel
theorem dX11_entry_98 : decode cX11_entry 98 = .ok (.ireturn, 1) := by decide +kernel
theorem dX11_reader_0 : decode cX11_reader 0 = .ok (.aload_n 0, 1) := by decide +kernel
theorem dX11_reader_1 : decode cX11_reader 1 = .ok (.iload_n 1, 1) := by decide +kernel
theorem dX11_reader_2 : decode cX11_reader 2 = .ok (.invokevirtual 187, 3) := by decide +kernel
theorem dX11_reader_5 : decode cX11_reader 5 = .ok (.astore_n 3, 1) := by decide +kernel
theorem dX11_reader_6 : decode cX11_reader 6 = .ok (.iload_n 2, 1) := by decide +kernel
theorem dX11_reader_7 : decode cX11_reader 7 = .ok (.iconst 0, 1) := by decide +kernel
theorem dX11_reader_8 : decode cX11_reader 8 = .ok (.bipush 10, 2) := by decide +kernel
theorem dX11_reader_10 : decode cX11_reader 10 = .ok (.invokestatic 76, 3) := by decide +kernel
theorem dX11_reader_13 : decode cX11_reader 13 = .ok (.aload_n 0, 1) := by decide +kernel
theorem dX11_reader_14 : decode cX11_reader 14 = .ok (.getfield 19, 3) := by decide +kernel
theorem dX11_reader_17 : decode cX11_reader 17 = .ok (.aload_n 3, 1) := by decide +kernel
theorem dX11_reader_18 : decode cX11_reader 18 = .ok (.invokevirtual 191, 3) := by decide +kernel
theorem dX11_reader_21 : decode cX11_reader 21 = .ok (.astore 4, 2) := by decide +kernel
theorem dX11_reader_23 : decode cX11_reader 23 = .ok (.iload_n 2, 1) := by decide +kernel
theorem dX11_reader_24 : decode cX11_reader 24 = .ok (.tableswitch 140 0 9 #[56, 61, 66, 71, 76, 81, 86, 114, 125, 135], 56) := by decide +kernel
theorem dX11_reader_80 : decode cX11_reader 80 = .ok (.aload_n 3, 1) := by decide +kernel
theorem dX11_reader_81 : decode cX11_reader 81 = .ok (.getfield 195, 3) := by decide +kernel
theorem dX11_reader_84 : decode cX11_reader 84 = .ok (.ireturn, 1) := by decide +kernel
theorem dX11_reader_85 : decode cX11_reader 85 = .ok (.aload_n 3, 1) := by decide +kernel
theorem dX11_reader_86 : decode cX11_reader 86 = .ok (.getfield 200, 3) := by decide +kernel
theorem dX11_reader_89 : decode cX11_reader 89 = .ok (.ireturn, 1) := by decide +kernel
theorem dX11_reader_90 : decode cX11_reader 90 = .ok (.aload_n 3, 1) := by decide +kernel
theorem dX11_reader_91 : decode cX11_reader 91 = .ok (.getfield 203, 3) := by decide +kernel
theorem dX11_reader_94 : decode cX11_reader 94 = .ok (.ireturn, 1) := by decide +kernel
theorem dX11_reader_95 : decode cX11_reader 95 = .ok (.aload_n 3, 1) := by decide +kernel
theorem dX11_reader_96 : decode cX11_reader 96 = .ok (.getfield 206, 3) := by decide +kernel
theorem dX11_reader_99 : decode cX11_reader 99 = .ok (.ireturn, 1) := by decide +kernel
theorem dX11_reader_100 : decode cX11_reader 100 = .ok (.aload_n 3, 1) := by decide +kernel
theorem dX11_reader_101 : decode cX11_reader 101 = .ok (.getfield 209, 3) := by decide +kernel
theorem dX11_reader_104 : decode cX11_reader 104 = .ok (.ireturn, 1) := by decide +kernel
theorem dX11_reader_105 : decode cX11_reader 105 = .ok (.aload_n 3, 1) := by decide +kernel
theorem dX11_reader_106 : decode cX11_reader 106 = .ok (.getfield 212, 3) := by decide +kernel
theorem dX11_reader_109 : decode cX11_reader 109 = .ok (.ireturn, 1) := by decide +kernel
theorem dX11_reader_110 : decode cX11_reader 110 = .ok (.aload_n 3, 1) := by decide +kernel
theorem dX11_reader_111 : decode cX11_reader 111 = .ok (.aload_n 0, 1) := by decide +kernel
theorem dX11_reader_112 : decode cX11_reader 112 = .ok (.getfield 19, 3) := by decide +kernel
theorem dX11_reader_115 : decode cX11_reader 115 = .ok (.getfield 111, 3) := by decide +kernel
theorem dX11_reader_118 : decode cX11_reader 118 = .ok (.aload_n 0, 1) := by decide +kernel
theorem dX11_reader_119 : decode cX11_reader 119 = .ok (.getfield 10, 3) := by decide +kernel
theorem dX11_reader_122 : decode cX11_reader 122 = .ok (.iconst 3, 1) := by decide +kernel
theorem dX11_reader_123 : decode cX11_reader 123 = .ok (.invokevirtual 101, 3) := by decide +kernel
theorem dX11_reader_126 : decode cX11_reader 126 = .ok (.invokevirtual 215, 3) := by decide +kernel
theorem dX11_reader_129 : decode cX11_reader 129 = .ok (.ifCond .eq 7, 3) := by decide +kernel
theorem dX11_reader_132 : decode cX11_reader 132 = .ok (.iconst 1, 1) := by decide +kernel
theorem dX11_reader_133 : decode cX11_reader 133 = .ok (.goto 4, 3) := by decide +kernel
theorem dX11_reader_136 : decode cX11_reader 136 = .ok (.iconst 0, 1) := by decide +kernel
theorem dX11_reader_137 : decode cX11_reader 137 = .ok (.ireturn, 1) := by decide +kernel
theorem dX11_reader_138 : decode cX11_reader 138 = .ok (.aload 4, 2) := by decide +kernel
theorem dX11_reader_140 : decode cX11_reader 140 = .ok (.getfield 142, 3) := by decide +kernel
theorem dX11_reader_143 : decode cX11_reader 143 = .ok (.aload_n 3, 1) := by decide +kernel
theorem dX11_reader_144 : decode cX11_reader 144 = .ok (.getfield 200, 3) := by decide +kernel
theorem dX11_reader_147 : decode cX11_reader 147 = .ok (.isub, 1) := by decide +kernel
theorem dX11_reader_148 : decode cX11_reader 148 = .ok (.ireturn, 1) := by decide +kernel
theorem dX11_reader_149 : decode cX11_reader 149 = .ok (.aload 4, 2) := by decide +kernel
theorem dX11_reader_151 : decode cX11_reader 151 = .ok (.aload_n 3, 1) := by decide +kernel
theorem dX11_reader_152 : decode cX11_reader 152 = .ok (.getfield 200, 3) := by decide +kernel
theorem dX11_reader_155 : decode cX11_reader 155 = .ok (.invokevirtual 219, 3) := by decide +kernel
theorem dX11_reader_158 : decode cX11_reader 158 = .ok (.ireturn, 1) := by decide +kernel
theorem dX11_reader_159 : decode cX11_reader 159 = .ok (.aload_n 3, 1) := by decide +kernel
theorem dX11_reader_160 : decode cX11_reader 160 = .ok (.getfield 222, 3) := by decide +kernel
theorem dX11_reader_163 : decode cX11_reader 163 = .ok (.ireturn, 1) := by decide +kernel
theorem dX11_reader_164 : decode cX11_reader 164 = .ok (.aload_n 3, 1) := by decide +kernel
theorem dX11_reader_165 : decode cX11_reader 165 = .ok (.getfield 225, 3) := by decide +kernel
theorem dX11_reader_168 : decode cX11_reader 168 = .ok (.ireturn, 1) := by decide +kernel
theorem dX11_debt_0 : decode cX11_debt 0 = .ok (.aload_n 0, 1) := by decide +kernel
theorem dX11_debt_1 : decode cX11_debt 1 = .ok (.iload_n 1, 1) := by decide +kernel
theorem dX11_debt_2 : decode cX11_debt 2 = .ok (.invokevirtual 187, 3) := by decide +kernel
theorem dX11_debt_5 : decode cX11_debt 5 = .ok (.astore_n 3, 1) := by decide +kernel
theorem dX11_debt_6 : decode cX11_debt 6 = .ok (.iload_n 2, 1) := by decide +kernel
theorem dX11_debt_7 : decode cX11_debt 7 = .ok (.iconst 0, 1) := by decide +kernel
theorem dX11_debt_8 : decode cX11_debt 8 = .ok (.bipush 6, 2) := by decide +kernel
theorem dX11_debt_10 : decode cX11_debt 10 = .ok (.invokestatic 76, 3) := by decide +kernel
theorem dX11_debt_13 : decode cX11_debt 13 = .ok (.aload_n 3, 1) := by decide +kernel
theorem dX11_debt_14 : decode cX11_debt 14 = .ok (.getfield 228, 3) := by decide +kernel
theorem dX11_debt_17 : decode cX11_debt 17 = .ok (.iload_n 2, 1) := by decide +kernel
theorem dX11_debt_18 : decode cX11_debt 18 = .ok (.invokevirtual 232, 3) := by decide +kernel
theorem dX11_debt_21 : decode cX11_debt 21 = .ok (.ireturn, 1) := by decide +kernel
theorem dX11_debtOf_0 : decode cX11_debtOf 0 = .ok (.aload_n 0, 1) := by decide +kernel
theorem dX11_debtOf_1 : decode cX11_debtOf 1 = .ok (.iload_n 1, 1) := by decide +kernel
theorem dX11_debtOf_2 : decode cX11_debtOf 2 = .ok (.invokevirtual 187, 3) := by decide +kernel
theorem dX11_debtOf_5 : decode cX11_debtOf 5 = .ok (.astore_n 3, 1) := by decide +kernel
theorem dX11_debtOf_6 : decode cX11_debtOf 6 = .ok (.iload_n 2, 1) := by decide +kernel
theorem dX11_debtOf_7 : decode cX11_debtOf 7 = .ok (.iconst 0, 1) := by decide +kernel
theorem dX11_debtOf_8 : decode cX11_debtOf 8 = .ok (.bipush 9, 2) := by decide +kernel
theorem dX11_debtOf_10 : decode cX11_debtOf 10 = .ok (.invokestatic 76, 3) := by decide +kernel
theorem dX11_debtOf_13 : decode cX11_debtOf 13 = .ok (.aload_n 3, 1) := by decide +kernel
theorem dX11_debtOf_14 : decode cX11_debtOf 14 = .ok (.getfield 228, 3) := by decide +kernel
theorem dX11_debtOf_17 : decode cX11_debtOf 17 = .ok (.iload_n 2, 1) := by decide +kernel
theorem dX11_debtOf_18 : decode cX11_debtOf 18 = .ok (.invokevirtual 237, 3) := by decide +kernel
theorem dX11_debtOf_21 : decode cX11_debtOf 21 = .ok (.ireturn, 1) := by decide +kernel
theorem dX11_item_0 : decode cX11_item 0 = .ok (.iload_n 1, 1) := by decide +kernel
theorem dX11_item_1 : decode cX11_item 1 = .ok (.ifCond .lt 14, 3) := by decide +kernel
theorem dX11_item_4 : decode cX11_item 4 = .ok (.iload_n 1, 1) := by decide +kernel
theorem dX11_item_5 : decode cX11_item 5 = .ok (.aload_n 0, 1) := by decide +kernel
theorem dX11_item_6 : decode cX11_item 6 = .ok (.getfield 40, 3) := by decide +kernel
theorem dX11_item_9 : decode cX11_item 9 = .ok (.invokevirtual 130, 3) := by decide +kernel
theorem dX11_item_12 : decode cX11_item 12 = .ok (.if_icmp .lt 11, 3) := by decide +kernel
theorem dX11_item_15 : decode cX11_item 15 = .ok (.new 168, 3) := by decide +kernel
theorem dX11_item_18 : decode cX11_item 18 = .ok (.dup, 1) := by decide +kernel
theorem dX11_item_19 : decode cX11_item 19 = .ok (.invokespecial 170, 3) := by decide +kernel
theorem dX11_item_22 : decode cX11_item 22 = .ok (.athrow, 1) := by decide +kernel
theorem dX11_item_23 : decode cX11_item 23 = .ok (.iload_n 2, 1) := by decide +kernel
theorem dX11_item_24 : decode cX11_item 24 = .ok (.iconst 0, 1) := by decide +kernel
theorem dX11_item_25 : decode cX11_item 25 = .ok (.bipush 7, 2) := by decide +kernel
theorem dX11_item_27 : decode cX11_item 27 = .ok (.invokestatic 76, 3) := by decide +kernel
theorem dX11_item_30 : decode cX11_item 30 = .ok (.aload_n 0, 1) := by decide +kernel
theorem dX11_item_31 : decode cX11_item 31 = .ok (.getfield 40, 3) := by decide +kernel
theorem dX11_item_34 : decode cX11_item 34 = .ok (.iload_n 1, 1) := by decide +kernel
theorem dX11_item_35 : decode cX11_item 35 = .ok (.iload_n 2, 1) := by decide +kernel
theorem dX11_item_36 : decode cX11_item 36 = .ok (.invokevirtual 240, 3) := by decide +kernel
theorem dX11_item_39 : decode cX11_item 39 = .ok (.ireturn, 1) := by decide +kernel
theorem dX11_account_0 : decode cX11_account 0 = .ok (.iload_n 1, 1) := by decide +kernel
theorem dX11_account_1 : decode cX11_account 1 = .ok (.iconst 0, 1) := by decide +kernel
theorem dX11_account_2 : decode cX11_account 2 = .ok (.bipush 10, 2) := by decide +kernel
theorem dX11_account_4 : decode cX11_account 4 = .ok (.invokestatic 76, 3) := by decide +kernel
theorem dX11_account_7 : decode cX11_account 7 = .ok (.aload_n 0, 1) := by decide +kernel
theorem dX11_account_8 : decode cX11_account 8 = .ok (.getfield 33, 3) := by decide +kernel
theorem dX11_account_11 : decode cX11_account 11 = .ok (.iload_n 1, 1) := by decide +kernel
theorem dX11_account_12 : decode cX11_account 12 = .ok (.invokevirtual 243, 3) := by decide +kernel
theorem dX11_account_15 : decode cX11_account 15 = .ok (.ireturn, 1) := by decide +kernel
theorem dX11_append_0 : decode cX11_append 0 = .ok (.aload_n 0, 1) := by decide +kernel
theorem dX11_append_1 : decode cX11_append 1 = .ok (.iload_n 1, 1) := by decide +kernel
theorem dX11_append_2 : decode cX11_append 2 = .ok (.invokevirtual 133, 3) := by decide +kernel
theorem dX11_append_5 : decode cX11_append 5 = .ok (.astore 5, 2) := by decide +kernel
theorem dX11_append_7 : decode cX11_append 7 = .ok (.iload_n 2, 1) := by decide +kernel
theorem dX11_append_8 : decode cX11_append 8 = .ok (.iconst 0, 1) := by decide +kernel
theorem dX11_append_9 : decode cX11_append 9 = .ok (.bipush 9, 2) := by decide +kernel
theorem dX11_append_11 : decode cX11_append 11 = .ok (.invokestatic 76, 3) := by decide +kernel
theorem dX11_append_14 : decode cX11_append 14 = .ok (.iload_n 3, 1) := by decide +kernel
theorem dX11_append_15 : decode cX11_append 15 = .ok (.iconst 1, 1) := by decide +kernel
theorem dX11_append_16 : decode cX11_append 16 = .ok (.bipush 9, 2) := by decide +kernel
theorem dX11_append_18 : decode cX11_append 18 = .ok (.invokestatic 76, 3) := by decide +kernel
theorem dX11_append_21 : decode cX11_append 21 = .ok (.iload 4, 2) := by decide +kernel
theorem dX11_append_23 : decode cX11_append 23 = .ok (.bipush (-99), 2) := by decide +kernel
theorem dX11_append_25 : decode cX11_append 25 = .ok (.bipush 99, 2) := by decide +kernel
theorem dX11_append_27 : decode cX11_append 27 = .ok (.invokestatic 76, 3) := by decide +kernel
theorem dX11_append_30 : decode cX11_append 30 = .ok (.aload_n 0, 1) := by decide +kernel
theorem dX11_append_31 : decode cX11_append 31 = .ok (.getfield 33, 3) := by decide +kernel
theorem dX11_append_34 : decode cX11_append 34 = .ok (.aload_n 0, 1) := by decide +kernel
theorem dX11_append_35 : decode cX11_append 35 = .ok (.getfield 19, 3) := by decide +kernel
theorem dX11_append_38 : decode cX11_append 38 = .ok (.invokevirtual 246, 3) := by decide +kernel
theorem dX11_append_41 : decode cX11_append 41 = .ok (.aload 5, 2) := by decide +kernel
theorem dX11_append_43 : decode cX11_append 43 = .ok (.getfield 142, 3) := by decide +kernel
theorem dX11_append_46 : decode cX11_append 46 = .ok (.istore 6, 2) := by decide +kernel
theorem dX11_append_48 : decode cX11_append 48 = .ok (.aload 5, 2) := by decide +kernel
theorem dX11_append_50 : decode cX11_append 50 = .ok (.new 172, 3) := by decide +kernel
theorem dX11_append_53 : decode cX11_append 53 = .ok (.dup, 1) := by decide +kernel
theorem dX11_append_54 : decode cX11_append 54 = .ok (.aload_n 0, 1) := by decide +kernel
theorem dX11_append_55 : decode cX11_append 55 = .ok (.getfield 19, 3) := by decide +kernel
theorem dX11_append_58 : decode cX11_append 58 = .ok (.getfield 111, 3) := by decide +kernel
theorem dX11_append_61 : decode cX11_append 61 = .ok (.iload_n 2, 1) := by decide +kernel
theorem dX11_append_62 : decode cX11_append 62 = .ok (.iload_n 3, 1) := by decide +kernel
theorem dX11_append_63 : decode cX11_append 63 = .ok (.iload 4, 2) := by decide +kernel
theorem dX11_append_65 : decode cX11_append 65 = .ok (.invokespecial 249, 3) := by decide +kernel
theorem dX11_append_68 : decode cX11_append 68 = .ok (.invokevirtual 252, 3) := by decide +kernel
theorem dX11_append_71 : decode cX11_append 71 = .ok (.aload_n 0, 1) := by decide +kernel
theorem dX11_append_72 : decode cX11_append 72 = .ok (.getfield 19, 3) := by decide +kernel
theorem dX11_append_75 : decode cX11_append 75 = .ok (.dup, 1) := by decide +kernel
theorem dX11_append_76 : decode cX11_append 76 = .ok (.getfield 124, 3) := by decide +kernel
theorem dX11_append_79 : decode cX11_append 79 = .ok (.iconst 1, 1) := by decide +kernel
theorem dX11_append_80 : decode cX11_append 80 = .ok (.iadd, 1) := by decide +kernel
theorem dX11_append_81 : decode cX11_append 81 = .ok (.putfield 124, 3) := by decide +kernel
theorem dX11_append_84 : decode cX11_append 84 = .ok (.aload_n 0, 1) := by decide +kernel
theorem dX11_append_85 : decode cX11_append 85 = .ok (.getfield 19, 3) := by decide +kernel
theorem dX11_append_88 : decode cX11_append 88 = .ok (.aload 5, 2) := by decide +kernel
theorem dX11_append_90 : decode cX11_append 90 = .ok (.aload_n 0, 1) := by decide +kernel
theorem dX11_append_91 : decode cX11_append 91 = .ok (.getfield 10, 3) := by decide +kernel
theorem dX11_append_94 : decode cX11_append 94 = .ok (.invokevirtual 256, 3) := by decide +kernel
theorem dX11_append_97 : decode cX11_append 97 = .ok (.pop, 1) := by decide +kernel
theorem dX11_append_98 : decode cX11_append 98 = .ok (.iload 6, 2) := by decide +kernel
theorem dX11_append_100 : decode cX11_append 100 = .ok (.ireturn, 1) := by decide +kernel
theorem dX11_join_0 : decode cX11_join 0 = .ok (.aload_n 0, 1) := by decide +kernel
theorem dX11_join_1 : decode cX11_join 1 = .ok (.iload_n 1, 1) := by decide +kernel
theorem dX11_join_2 : decode cX11_join 2 = .ok (.invokevirtual 133, 3) := by decide +kernel
theorem dX11_join_5 : decode cX11_join 5 = .ok (.astore_n 3, 1) := by decide +kernel
theorem dX11_join_6 : decode cX11_join 6 = .ok (.aload_n 0, 1) := by decide +kernel
theorem dX11_join_7 : decode cX11_join 7 = .ok (.getfield 19, 3) := by decide +kernel
theorem dX11_join_10 : decode cX11_join 10 = .ok (.invokevirtual 260, 3) := by decide +kernel
theorem dX11_join_13 : decode cX11_join 13 = .ok (.istore 4, 2) := by decide +kernel
theorem dX11_join_15 : decode cX11_join 15 = .ok (.iload 4, 2) := by decide +kernel
theorem dX11_join_17 : decode cX11_join 17 = .ok (.iconst (-1), 1) := by decide +kernel
theorem dX11_join_18 : decode cX11_join 18 = .ok (.if_icmp .ne 12, 3) := by decide +kernel
theorem dX11_join_21 : decode cX11_join 21 = .ok (.aload_n 0, 1) := by decide +kernel
theorem dX11_join_22 : decode cX11_join 22 = .ok (.getfield 33, 3) := by decide +kernel
theorem dX11_join_25 : decode cX11_join 25 = .ok (.iconst 1, 1) := by decide +kernel
theorem dX11_join_26 : decode cX11_join 26 = .ok (.invokevirtual 263, 3) := by decide +kernel
theorem dX11_join_29 : decode cX11_join 29 = .ok (.ireturn, 1) := by decide +kernel
theorem dX11_join_30 : decode cX11_join 30 = .ok (.aload_n 0, 1) := by decide +kernel
theorem dX11_join_31 : decode cX11_join 31 = .ok (.getfield 33, 3) := by decide +kernel
theorem dX11_join_34 : decode cX11_join 34 = .ok (.aload_n 0, 1) := by decide +kernel
theorem dX11_join_35 : decode cX11_join 35 = .ok (.getfield 19, 3) := by decide +kernel
theorem dX11_join_38 : decode cX11_join 38 = .ok (.invokevirtual 246, 3) := by decide +kernel
theorem dX11_join_41 : decode cX11_join 41 = .ok (.aload_n 0, 1) := by decide +kernel
theorem dX11_join_42 : decode cX11_join 42 = .ok (.getfield 19, 3) := by decide +kernel
theorem dX11_join_45 : decode cX11_join 45 = .ok (.iload 4, 2) := by decide +kernel
theorem dX11_join_47 : decode cX11_join 47 = .ok (.aload_n 3, 1) := by decide +kernel
theorem dX11_join_48 : decode cX11_join 48 = .ok (.iload_n 2, 1) := by decide +kernel
theorem dX11_join_49 : decode cX11_join 49 = .ok (.ifCond .eq 10, 3) := by decide +kernel
theorem dX11_join_52 : decode cX11_join 52 = .ok (.aload_n 3, 1) := by decide +kernel
theorem dX11_join_53 : decode cX11_join 53 = .ok (.getfield 142, 3) := by decide +kernel
theorem dX11_join_56 : decode cX11_join 56 = .ok (.goto 7, 3) := by decide +kernel
theorem dX11_join_59 : decode cX11_join 59 = .ok (.aload_n 3, 1) := by decide +kernel
theorem dX11_join_60 : decode cX11_join 60 = .ok (.getfield 137, 3) := by decide +kernel
theorem dX11_join_63 : decode cX11_join 63 = .ok (.invokevirtual 266, 3) := by decide +kernel
theorem dX11_join_66 : decode cX11_join 66 = .ok (.iload 4, 2) := by decide +kernel
theorem dX11_join_68 : decode cX11_join 68 = .ok (.ireturn, 1) := by decide +kernel
theorem dX11_leave_0 : decode cX11_leave 0 = .ok (.aload_n 0, 1) := by decide +kernel
theorem dX11_leave_1 : decode cX11_leave 1 = .ok (.iload_n 1, 1) := by decide +kernel
theorem dX11_leave_2 : decode cX11_leave 2 = .ok (.invokevirtual 187, 3) := by decide +kernel
theorem dX11_leave_5 : decode cX11_leave 5 = .ok (.astore_n 2, 1) := by decide +kernel
theorem dX11_leave_6 : decode cX11_leave 6 = .ok (.aload_n 0, 1) := by decide +kernel
theorem dX11_leave_7 : decode cX11_leave 7 = .ok (.getfield 33, 3) := by decide +kernel
theorem dX11_leave_10 : decode cX11_leave 10 = .ok (.aload_n 0, 1) := by decide +kernel
theorem dX11_leave_11 : decode cX11_leave 11 = .ok (.getfield 19, 3) := by decide +kernel
theorem dX11_leave_14 : decode cX11_leave 14 = .ok (.invokevirtual 246, 3) := by decide +kernel
theorem dX11_leave_17 : decode cX11_leave 17 = .ok (.aload_n 2, 1) := by decide +kernel
theorem dX11_leave_18 : decode cX11_leave 18 = .ok (.iconst 0, 1) := by decide +kernel
theorem dX11_leave_19 : decode cX11_leave 19 = .ok (.putfield 270, 3) := by decide +kernel
theorem dX11_leave_22 : decode cX11_leave 22 = .ok (.aload_n 0, 1) := by decide +kernel
theorem dX11_leave_23 : decode cX11_leave 23 = .ok (.getfield 19, 3) := by decide +kernel
theorem dX11_leave_26 : decode cX11_leave 26 = .ok (.invokevirtual 118, 3) := by decide +kernel
theorem dX11_leave_29 : decode cX11_leave 29 = .ok (.ireturn, 1) := by decide +kernel
theorem dX11_read_0 : decode cX11_read 0 = .ok (.aload_n 0, 1) := by decide +kernel
theorem dX11_read_1 : decode cX11_read 1 = .ok (.iload_n 1, 1) := by decide +kernel
theorem dX11_read_2 : decode cX11_read 2 = .ok (.invokevirtual 187, 3) := by decide +kernel
theorem dX11_read_5 : decode cX11_read 5 = .ok (.astore_n 3, 1) := by decide +kernel
theorem dX11_read_6 : decode cX11_read 6 = .ok (.iload_n 2, 1) := by decide +kernel
theorem dX11_read_7 : decode cX11_read 7 = .ok (.iconst 1, 1) := by decide +kernel
theorem dX11_read_8 : decode cX11_read 8 = .ok (.bipush 99, 2) := by decide +kernel
theorem dX11_read_10 : decode cX11_read 10 = .ok (.invokestatic 76, 3) := by decide +kernel
theorem dX11_read_13 : decode cX11_read 13 = .ok (.aload_n 0, 1) := by decide +kernel
theorem dX11_read_14 : decode cX11_read 14 = .ok (.getfield 19, 3) := by decide +kernel
theorem dX11_read_17 : decode cX11_read 17 = .ok (.aload_n 3, 1) := by decide +kernel
theorem dX11_read_18 : decode cX11_read 18 = .ok (.invokevirtual 191, 3) := by decide +kernel
theorem dX11_read_21 : decode cX11_read 21 = .ok (.astore 4, 2) := by decide +kernel
theorem dX11_read_23 : decode cX11_read 23 = .ok (.aload_n 3, 1) := by decide +kernel
theorem dX11_read_24 : decode cX11_read 24 = .ok (.getfield 228, 3) := by decide +kernel
theorem dX11_read_27 : decode cX11_read 27 = .ok (.getfield 274, 3) := by decide +kernel
theorem dX11_read_30 : decode cX11_read 30 = .ok (.ifCond .ne 25, 3) := by decide +kernel
theorem dX11_read_33 : decode cX11_read 33 = .ok (.aload_n 3, 1) := by decide +kernel
theorem dX11_read_34 : decode cX11_read 34 = .ok (.getfield 200, 3) := by decide +kernel
theorem dX11_read_37 : decode cX11_read 37 = .ok (.aload 4, 2) := by decide +kernel
theorem dX11_read_39 : decode cX11_read 39 = .ok (.getfield 142, 3) := by decide +kernel
theorem dX11_read_42 : decode cX11_read 42 = .ok (.if_icmp .lt 13, 3) := by decide +kernel
theorem dX11_read_45 : decode cX11_read 45 = .ok (.aload_n 0, 1) := by decide +kernel
theorem dX11_read_46 : decode cX11_read 46 = .ok (.getfield 33, 3) := by decide +kernel
theorem dX11_read_49 : decode cX11_read 49 = .ok (.bipush 10, 2) := by decide +kernel
theorem dX11_read_51 : decode cX11_read 51 = .ok (.invokevirtual 263, 3) := by decide +kernel
theorem dX11_read_54 : decode cX11_read 54 = .ok (.ireturn, 1) := by decide +kernel
theorem dX11_read_55 : decode cX11_read 55 = .ok (.aload_n 0, 1) := by decide +kernel
theorem dX11_read_56 : decode cX11_read 56 = .ok (.getfield 33, 3) := by decide +kernel
theorem dX11_read_59 : decode cX11_read 59 = .ok (.aload_n 0, 1) := by decide +kernel
theorem dX11_read_60 : decode cX11_read 60 = .ok (.getfield 19, 3) := by decide +kernel
theorem dX11_read_63 : decode cX11_read 63 = .ok (.invokevirtual 246, 3) := by decide +kernel
theorem dX11_read_66 : decode cX11_read 66 = .ok (.aload_n 0, 1) := by decide +kernel
theorem dX11_read_67 : decode cX11_read 67 = .ok (.getfield 40, 3) := by decide +kernel
theorem dX11_read_70 : decode cX11_read 70 = .ok (.aload_n 3, 1) := by decide +kernel
theorem dX11_read_71 : decode cX11_read 71 = .ok (.aload 4, 2) := by decide +kernel
theorem dX11_read_73 : decode cX11_read 73 = .ok (.iload_n 2, 1) := by decide +kernel
theorem dX11_read_74 : decode cX11_read 74 = .ok (.invokevirtual 277, 3) := by decide +kernel
theorem dX11_read_77 : decode cX11_read 77 = .ok (.aload_n 3, 1) := by decide +kernel
theorem dX11_read_78 : decode cX11_read 78 = .ok (.aload_n 0, 1) := by decide +kernel
theorem dX11_read_79 : decode cX11_read 79 = .ok (.getfield 19, 3) := by decide +kernel
theorem dX11_read_82 : decode cX11_read 82 = .ok (.getfield 111, 3) := by decide +kernel
theorem dX11_read_85 : decode cX11_read 85 = .ok (.invokevirtual 281, 3) := by decide +kernel
theorem dX11_read_88 : decode cX11_read 88 = .ok (.aload_n 0, 1) := by decide +kernel
theorem dX11_read_89 : decode cX11_read 89 = .ok (.getfield 40, 3) := by decide +kernel
theorem dX11_read_92 : decode cX11_read 92 = .ok (.invokevirtual 130, 3) := by decide +kernel
theorem dX11_read_95 : decode cX11_read 95 = .ok (.ireturn, 1) := by decide +kernel
theorem dX11_promise_0 : decode cX11_promise 0 = .ok (.aload_n 0, 1) := by decide +kernel
theorem dX11_promise_1 : decode cX11_promise 1 = .ok (.iload_n 1, 1) := by decide +kernel
theorem dX11_promise_2 : decode cX11_promise 2 = .ok (.invokevirtual 187, 3) := by decide +kernel
theorem dX11_promise_5 : decode cX11_promise 5 = .ok (.astore_n 3, 1) := by decide +kernel
theorem dX11_promise_6 : decode cX11_promise 6 = .ok (.iload_n 2, 1) := by decide +kernel
theorem dX11_promise_7 : decode cX11_promise 7 = .ok (.iconst 1, 1) := by decide +kernel
theorem dX11_promise_8 : decode cX11_promise 8 = .ok (.aload_n 0, 1) := by decide +kernel
theorem dX11_promise_9 : decode cX11_promise 9 = .ok (.getfield 10, 3) := by decide +kernel
theorem dX11_promise_12 : decode cX11_promise 12 = .ok (.iconst 5, 1) := by decide +kernel
theorem dX11_promise_13 : decode cX11_promise 13 = .ok (.invokevirtual 101, 3) := by decide +kernel
theorem dX11_promise_16 : decode cX11_promise 16 = .ok (.invokestatic 76, 3) := by decide +kernel
theorem dX11_promise_19 : decode cX11_promise 19 = .ok (.aload_n 3, 1) := by decide +kernel
theorem dX11_promise_20 : decode cX11_promise 20 = .ok (.getfield 212, 3) := by decide +kernel
theorem dX11_promise_23 : decode cX11_promise 23 = .ok (.aload_n 0, 1) := by decide +kernel
theorem dX11_promise_24 : decode cX11_promise 24 = .ok (.getfield 10, 3) := by decide +kernel
theorem dX11_promise_27 : decode cX11_promise 27 = .ok (.iconst 4, 1) := by decide +kernel
theorem dX11_promise_28 : decode cX11_promise 28 = .ok (.invokevirtual 101, 3) := by decide +kernel
theorem dX11_promise_31 : decode cX11_promise 31 = .ok (.if_icmp .lt 12, 3) := by decide +kernel
theorem dX11_promise_34 : decode cX11_promise 34 = .ok (.aload_n 0, 1) := by decide +kernel
theorem dX11_promise_35 : decode cX11_promise 35 = .ok (.getfield 33, 3) := by decide +kernel
theorem dX11_promise_38 : decode cX11_promise 38 = .ok (.iconst 3, 1) := by decide +kernel
theorem dX11_promise_39 : decode cX11_promise 39 = .ok (.invokevirtual 263, 3) := by decide +kernel
theorem dX11_promise_42 : decode cX11_promise 42 = .ok (.ireturn, 1) := by decide +kernel
theorem dX11_promise_43 : decode cX11_promise 43 = .ok (.aload_n 3, 1) := by decide +kernel
theorem dX11_promise_44 : decode cX11_promise 44 = .ok (.getfield 206, 3) := by decide +kernel
theorem dX11_promise_47 : decode cX11_promise 47 = .ok (.iconst (-1), 1) := by decide +kernel
theorem dX11_promise_48 : decode cX11_promise 48 = .ok (.if_icmp .eq 12, 3) := by decide +kernel
theorem dX11_promise_51 : decode cX11_promise 51 = .ok (.aload_n 0, 1) := by decide +kernel
theorem dX11_promise_52 : decode cX11_promise 52 = .ok (.getfield 33, 3) := by decide +kernel
theorem dX11_promise_55 : decode cX11_promise 55 = .ok (.iconst 4, 1) := by decide +kernel
theorem dX11_promise_56 : decode cX11_promise 56 = .ok (.invokevirtual 263, 3) := by decide +kernel
theorem dX11_promise_59 : decode cX11_promise 59 = .ok (.ireturn, 1) := by decide +kernel
theorem dX11_promise_60 : decode cX11_promise 60 = .ok (.aload_n 0, 1) := by decide +kernel
theorem dX11_promise_61 : decode cX11_promise 61 = .ok (.getfield 33, 3) := by decide +kernel
theorem dX11_promise_64 : decode cX11_promise 64 = .ok (.aload_n 0, 1) := by decide +kernel
theorem dX11_promise_65 : decode cX11_promise 65 = .ok (.getfield 19, 3) := by decide +kernel
theorem dX11_promise_68 : decode cX11_promise 68 = .ok (.invokevirtual 246, 3) := by decide +kernel
theorem dX11_promise_71 : decode cX11_promise 71 = .ok (.aload_n 3, 1) := by decide +kernel
theorem dX11_promise_72 : decode cX11_promise 72 = .ok (.aload_n 0, 1) := by decide +kernel
theorem dX11_promise_73 : decode cX11_promise 73 = .ok (.getfield 19, 3) := by decide +kernel
theorem dX11_promise_76 : decode cX11_promise 76 = .ok (.getfield 111, 3) := by decide +kernel
theorem dX11_promise_79 : decode cX11_promise 79 = .ok (.iload_n 2, 1) := by decide +kernel
theorem dX11_promise_80 : decode cX11_promise 80 = .ok (.iadd, 1) := by decide +kernel
theorem dX11_promise_81 : decode cX11_promise 81 = .ok (.putfield 206, 3) := by decide +kernel
theorem dX11_promise_84 : decode cX11_promise 84 = .ok (.aload_n 3, 1) := by decide +kernel
theorem dX11_promise_85 : decode cX11_promise 85 = .ok (.getfield 206, 3) := by decide +kernel
theorem dX11_promise_88 : decode cX11_promise 88 = .ok (.ireturn, 1) := by decide +kernel
theorem dX11_move_0 : decode cX11_move 0 = .ok (.aload_n 0, 1) := by decide +kernel
theorem dX11_move_1 : decode cX11_move 1 = .ok (.iload_n 1, 1) := by decide +kernel
theorem dX11_move_2 : decode cX11_move 2 = .ok (.invokevirtual 187, 3) := by decide +kernel
theorem dX11_move_5 : decode cX11_move 5 = .ok (.astore_n 3, 1) := by decide +kernel
theorem dX11_move_6 : decode cX11_move 6 = .ok (.aload_n 0, 1) := by decide +kernel
theorem dX11_move_7 : decode cX11_move 7 = .ok (.iload_n 2, 1) := by decide +kernel
theorem dX11_move_8 : decode cX11_move 8 = .ok (.invokevirtual 133, 3) := by decide +kernel
theorem dX11_move_11 : decode cX11_move 11 = .ok (.astore 4, 2) := by decide +kernel
theorem dX11_move_13 : decode cX11_move 13 = .ok (.aload_n 0, 1) := by decide +kernel
theorem dX11_move_14 : decode cX11_move 14 = .ok (.getfield 19, 3) := by decide +kernel
theorem dX11_move_17 : decode cX11_move 17 = .ok (.aload_n 3, 1) := by decide +kernel
theorem dX11_move_18 : decode cX11_move 18 = .ok (.invokevirtual 191, 3) := by decide +kernel
theorem dX11_move_21 : decode cX11_move 21 = .ok (.astore 5, 2) := by decide +kernel
theorem dX11_move_23 : decode cX11_move 23 = .ok (.aload 5, 2) := by decide +kernel
theorem dX11_move_25 : decode cX11_move 25 = .ok (.aload 4, 2) := by decide +kernel
theorem dX11_move_27 : decode cX11_move 27 = .ok (.if_acmp .eq 33, 3) := by decide +kernel
theorem dX11_move_30 : decode cX11_move 30 = .ok (.aload_n 3, 1) := by decide +kernel
theorem dX11_move_31 : decode cX11_move 31 = .ok (.getfield 200, 3) := by decide +kernel
theorem dX11_move_34 : decode cX11_move 34 = .ok (.aload_n 0, 1) := by decide +kernel
theorem dX11_move_35 : decode cX11_move 35 = .ok (.getfield 19, 3) := by decide +kernel
theorem dX11_move_38 : decode cX11_move 38 = .ok (.aload 5, 2) := by decide +kernel
theorem dX11_move_40 : decode cX11_move 40 = .ok (.aload 4, 2) := by decide +kernel
theorem dX11_move_42 : decode cX11_move 42 = .ok (.invokevirtual 285, 3) := by decide +kernel
theorem dX11_move_45 : decode cX11_move 45 = .ok (.if_icmp .gt 15, 3) := by decide +kernel
theorem dX11_move_48 : decode cX11_move 48 = .ok (.aload_n 3, 1) := by decide +kernel
theorem dX11_move_49 : decode cX11_move 49 = .ok (.getfield 200, 3) := by decide +kernel
theorem dX11_move_52 : decode cX11_move 52 = .ok (.aload 4, 2) := by decide +kernel
theorem dX11_move_54 : decode cX11_move 54 = .ok (.getfield 137, 3) := by decide +kernel
theorem dX11_move_57 : decode cX11_move 57 = .ok (.if_icmp .ge 12, 3) := by decide +kernel
theorem dX11_move_60 : decode cX11_move 60 = .ok (.aload_n 0, 1) := by decide +kernel
theorem dX11_move_61 : decode cX11_move 61 = .ok (.getfield 33, 3) := by decide +kernel
theorem dX11_move_64 : decode cX11_move 64 = .ok (.iconst 5, 1) := by decide +kernel
theorem dX11_move_65 : decode cX11_move 65 = .ok (.invokevirtual 263, 3) := by decide +kernel
theorem dX11_move_68 : decode cX11_move 68 = .ok (.ireturn, 1) := by decide +kernel
theorem dX11_move_69 : decode cX11_move 69 = .ok (.aload_n 0, 1) := by decide +kernel
theorem dX11_move_70 : decode cX11_move 70 = .ok (.getfield 33, 3) := by decide +kernel
theorem dX11_move_73 : decode cX11_move 73 = .ok (.aload_n 0, 1) := by decide +kernel
theorem dX11_move_74 : decode cX11_move 74 = .ok (.getfield 19, 3) := by decide +kernel
theorem dX11_move_77 : decode cX11_move 77 = .ok (.invokevirtual 246, 3) := by decide +kernel
theorem dX11_move_80 : decode cX11_move 80 = .ok (.aload_n 3, 1) := by decide +kernel
theorem dX11_move_81 : decode cX11_move 81 = .ok (.aload 4, 2) := by decide +kernel
theorem dX11_move_83 : decode cX11_move 83 = .ok (.getfield 289, 3) := by decide +kernel
theorem dX11_move_86 : decode cX11_move 86 = .ok (.putfield 195, 3) := by decide +kernel
theorem dX11_move_89 : decode cX11_move 89 = .ok (.aload_n 3, 1) := by decide +kernel
theorem dX11_move_90 : decode cX11_move 90 = .ok (.aload_n 0, 1) := by decide +kernel
theorem dX11_move_91 : decode cX11_move 91 = .ok (.getfield 19, 3) := by decide +kernel
theorem dX11_move_94 : decode cX11_move 94 = .ok (.getfield 111, 3) := by decide +kernel
theorem dX11_move_97 : decode cX11_move 97 = .ok (.putfield 203, 3) := by decide +kernel
theorem dX11_move_100 : decode cX11_move 100 = .ok (.aload_n 3, 1) := by decide +kernel
theorem dX11_move_101 : decode cX11_move 101 = .ok (.getfield 200, 3) := by decide +kernel
theorem dX11_move_104 : decode cX11_move 104 = .ok (.ireturn, 1) := by decide +kernel
theorem dX11_fork_0 : decode cX11_fork 0 = .ok (.aload_n 0, 1) := by decide +kernel
theorem dX11_fork_1 : decode cX11_fork 1 = .ok (.iload_n 1, 1) := by decide +kernel
theorem dX11_fork_2 : decode cX11_fork 2 = .ok (.invokevirtual 133, 3) := by decide +kernel
theorem dX11_fork_5 : decode cX11_fork 5 = .ok (.astore_n 2, 1) := by decide +kernel
theorem dX11_fork_6 : decode cX11_fork 6 = .ok (.aload_n 0, 1) := by decide +kernel
theorem dX11_fork_7 : decode cX11_fork 7 = .ok (.getfield 19, 3) := by decide +kernel
theorem dX11_fork_10 : decode cX11_fork 10 = .ok (.invokevirtual 292, 3) := by decide +kernel
theorem dX11_fork_13 : decode cX11_fork 13 = .ok (.astore_n 3, 1) := by decide +kernel
theorem dX11_fork_14 : decode cX11_fork 14 = .ok (.aload_n 3, 1) := by decide +kernel
theorem dX11_fork_15 : decode cX11_fork 15 = .ok (.ifnonnull 12, 3) := by decide +kernel
theorem dX11_fork_18 : decode cX11_fork 18 = .ok (.aload_n 0, 1) := by decide +kernel
theorem dX11_fork_19 : decode cX11_fork 19 = .ok (.getfield 33, 3) := by decide +kernel
theorem dX11_fork_22 : decode cX11_fork 22 = .ok (.iconst 2, 1) := by decide +kernel
theorem dX11_fork_23 : decode cX11_fork 23 = .ok (.invokevirtual 263, 3) := by decide +kernel
theorem dX11_fork_26 : decode cX11_fork 26 = .ok (.ireturn, 1) := by decide +kernel
theorem dX11_fork_27 : decode cX11_fork 27 = .ok (.aload_n 0, 1) := by decide +kernel
theorem dX11_fork_28 : decode cX11_fork 28 = .ok (.getfield 33, 3) := by decide +kernel
theorem dX11_fork_31 : decode cX11_fork 31 = .ok (.aload_n 0, 1) := by decide +kernel
theorem dX11_fork_32 : decode cX11_fork 32 = .ok (.getfield 19, 3) := by decide +kernel
theorem dX11_fork_35 : decode cX11_fork 35 = .ok (.invokevirtual 246, 3) := by decide +kernel
theorem dX11_fork_38 : decode cX11_fork 38 = .ok (.aload_n 3, 1) := by decide +kernel
theorem dX11_fork_39 : decode cX11_fork 39 = .ok (.aload_n 2, 1) := by decide +kernel
theorem dX11_fork_40 : decode cX11_fork 40 = .ok (.invokevirtual 296, 3) := by decide +kernel
theorem dX11_fork_43 : decode cX11_fork 43 = .ok (.aload_n 3, 1) := by decide +kernel
theorem dX11_fork_44 : decode cX11_fork 44 = .ok (.getfield 289, 3) := by decide +kernel
theorem dX11_fork_47 : decode cX11_fork 47 = .ok (.ireturn, 1) := by decide +kernel
theorem dX11_merge_0 : decode cX11_merge 0 = .ok (.aload_n 0, 1) := by decide +kernel
theorem dX11_merge_1 : decode cX11_merge 1 = .ok (.iload_n 1, 1) := by decide +kernel
theorem dX11_merge_2 : decode cX11_merge 2 = .ok (.invokevirtual 133, 3) := by decide +kernel
theorem dX11_merge_5 : decode cX11_merge 5 = .ok (.astore_n 2, 1) := by decide +kernel
theorem dX11_merge_6 : decode cX11_merge 6 = .ok (.aload_n 0, 1) := by decide +kernel
theorem dX11_merge_7 : decode cX11_merge 7 = .ok (.aload_n 2, 1) := by decide +kernel
theorem dX11_merge_8 : decode cX11_merge 8 = .ok (.invokevirtual 300, 3) := by decide +kernel
theorem dX11_merge_11 : decode cX11_merge 11 = .ok (.istore_n 3, 1) := by decide +kernel
theorem dX11_merge_12 : decode cX11_merge 12 = .ok (.iload_n 3, 1) := by decide +kernel
theorem dX11_merge_13 : decode cX11_merge 13 = .ok (.iconst (-1), 1) := by decide +kernel
theorem dX11_merge_14 : decode cX11_merge 14 = .ok (.if_icmp .ne 23, 3) := by decide +kernel
theorem dX11_merge_17 : decode cX11_merge 17 = .ok (.aload_n 0, 1) := by decide +kernel
theorem dX11_merge_18 : decode cX11_merge 18 = .ok (.getfield 19, 3) := by decide +kernel
theorem dX11_merge_21 : decode cX11_merge 21 = .ok (.aload_n 2, 1) := by decide +kernel
theorem dX11_merge_22 : decode cX11_merge 22 = .ok (.aload_n 2, 1) := by decide +kernel
theorem dX11_merge_23 : decode cX11_merge 23 = .ok (.getfield 151, 3) := by decide +kernel
theorem dX11_merge_26 : decode cX11_merge 26 = .ok (.iconst 1, 1) := by decide +kernel
theorem dX11_merge_27 : decode cX11_merge 27 = .ok (.isub, 1) := by decide +kernel
theorem dX11_merge_28 : decode cX11_merge 28 = .ok (.invokevirtual 183, 3) := by decide +kernel
theorem dX11_merge_31 : decode cX11_merge 31 = .ok (.ifCond .le 6, 3) := by decide +kernel
theorem dX11_merge_34 : decode cX11_merge 34 = .ok (.bipush 9, 2) := by decide +kernel
theorem dX11_merge_36 : decode cX11_merge 36 = .ok (.istore_n 3, 1) := by decide +kernel
theorem dX11_merge_37 : decode cX11_merge 37 = .ok (.iload_n 3, 1) := by decide +kernel
theorem dX11_merge_38 : decode cX11_merge 38 = .ok (.iconst (-1), 1) := by decide +kernel
theorem dX11_merge_39 : decode cX11_merge 39 = .ok (.if_icmp .eq 12, 3) := by decide +kernel
theorem dX11_merge_42 : decode cX11_merge 42 = .ok (.aload_n 0, 1) := by decide +kernel
theorem dX11_merge_43 : decode cX11_merge 43 = .ok (.getfield 33, 3) := by decide +kernel
theorem dX11_merge_46 : decode cX11_merge 46 = .ok (.iload_n 3, 1) := by decide +kernel
theorem dX11_merge_47 : decode cX11_merge 47 = .ok (.invokevirtual 263, 3) := by decide +kernel
theorem dX11_merge_50 : decode cX11_merge 50 = .ok (.ireturn, 1) := by decide +kernel
theorem dX11_merge_51 : decode cX11_merge 51 = .ok (.aload_n 0, 1) := by decide +kernel
theorem dX11_merge_52 : decode cX11_merge 52 = .ok (.getfield 33, 3) := by decide +kernel
theorem dX11_merge_55 : decode cX11_merge 55 = .ok (.aload_n 0, 1) := by decide +kernel
theorem dX11_merge_56 : decode cX11_merge 56 = .ok (.getfield 19, 3) := by decide +kernel
theorem dX11_merge_59 : decode cX11_merge 59 = .ok (.invokevirtual 246, 3) := by decide +kernel
theorem dX11_merge_62 : decode cX11_merge 62 = .ok (.aload_n 0, 1) := by decide +kernel
theorem dX11_merge_63 : decode cX11_merge 63 = .ok (.getfield 19, 3) := by decide +kernel
theorem dX11_merge_66 : decode cX11_merge 66 = .ok (.aload_n 2, 1) := by decide +kernel
theorem dX11_merge_67 : decode cX11_merge 67 = .ok (.aload_n 0, 1) := by decide +kernel
theorem dX11_merge_68 : decode cX11_merge 68 = .ok (.getfield 10, 3) := by decide +kernel
theorem dX11_merge_71 : decode cX11_merge 71 = .ok (.invokevirtual 303, 3) := by decide +kernel
theorem dX11_merge_74 : decode cX11_merge 74 = .ok (.ireturn, 1) := by decide +kernel
theorem dX11_drop_0 : decode cX11_drop 0 = .ok (.aload_n 0, 1) := by decide +kernel
theorem dX11_drop_1 : decode cX11_drop 1 = .ok (.iload_n 1, 1) := by decide +kernel
theorem dX11_drop_2 : decode cX11_drop 2 = .ok (.invokevirtual 133, 3) := by decide +kernel
theorem dX11_drop_5 : decode cX11_drop 5 = .ok (.astore_n 2, 1) := by decide +kernel
theorem dX11_drop_6 : decode cX11_drop 6 = .ok (.aload_n 0, 1) := by decide +kernel
theorem dX11_drop_7 : decode cX11_drop 7 = .ok (.aload_n 2, 1) := by decide +kernel
theorem dX11_drop_8 : decode cX11_drop 8 = .ok (.invokevirtual 300, 3) := by decide +kernel
theorem dX11_drop_11 : decode cX11_drop 11 = .ok (.istore_n 3, 1) := by decide +kernel
theorem dX11_drop_12 : decode cX11_drop 12 = .ok (.iload_n 3, 1) := by decide +kernel
theorem dX11_drop_13 : decode cX11_drop 13 = .ok (.iconst (-1), 1) := by decide +kernel
theorem dX11_drop_14 : decode cX11_drop 14 = .ok (.if_icmp .ne 17, 3) := by decide +kernel
theorem dX11_drop_17 : decode cX11_drop 17 = .ok (.aload_n 0, 1) := by decide +kernel
theorem dX11_drop_18 : decode cX11_drop 18 = .ok (.getfield 19, 3) := by decide +kernel
theorem dX11_drop_21 : decode cX11_drop 21 = .ok (.aload_n 2, 1) := by decide +kernel
theorem dX11_drop_22 : decode cX11_drop 22 = .ok (.invokevirtual 154, 3) := by decide +kernel
theorem dX11_drop_25 : decode cX11_drop 25 = .ok (.ifCond .le 6, 3) := by decide +kernel
theorem dX11_drop_28 : decode cX11_drop 28 = .ok (.bipush 8, 2) := by decide +kernel
theorem dX11_drop_30 : decode cX11_drop 30 = .ok (.istore_n 3, 1) := by decide +kernel
theorem dX11_drop_31 : decode cX11_drop 31 = .ok (.iload_n 3, 1) := by decide +kernel
theorem dX11_drop_32 : decode cX11_drop 32 = .ok (.iconst (-1), 1) := by decide +kernel
theorem dX11_drop_33 : decode cX11_drop 33 = .ok (.if_icmp .eq 12, 3) := by decide +kernel
theorem dX11_drop_36 : decode cX11_drop 36 = .ok (.aload_n 0, 1) := by decide +kernel
theorem dX11_drop_37 : decode cX11_drop 37 = .ok (.getfield 33, 3) := by decide +kernel
theorem dX11_drop_40 : decode cX11_drop 40 = .ok (.iload_n 3, 1) := by decide +kernel
theorem dX11_drop_41 : decode cX11_drop 41 = .ok (.invokevirtual 263, 3) := by decide +kernel
theorem dX11_drop_44 : decode cX11_drop 44 = .ok (.ireturn, 1) := by decide +kernel
theorem dX11_drop_45 : decode cX11_drop 45 = .ok (.aload_n 0, 1) := by decide +kernel
theorem dX11_drop_46 : decode cX11_drop 46 = .ok (.getfield 33, 3) := by decide +kernel
theorem dX11_drop_49 : decode cX11_drop 49 = .ok (.aload_n 0, 1) := by decide +kernel
theorem dX11_drop_50 : decode cX11_drop 50 = .ok (.getfield 19, 3) := by decide +kernel
theorem dX11_drop_53 : decode cX11_drop 53 = .ok (.invokevirtual 246, 3) := by decide +kernel
theorem dX11_drop_56 : decode cX11_drop 56 = .ok (.aload_n 2, 1) := by decide +kernel
theorem dX11_drop_57 : decode cX11_drop 57 = .ok (.iconst 0, 1) := by decide +kernel
theorem dX11_drop_58 : decode cX11_drop 58 = .ok (.putfield 306, 3) := by decide +kernel
theorem dX11_drop_61 : decode cX11_drop 61 = .ok (.aload_n 2, 1) := by decide +kernel
theorem dX11_drop_62 : decode cX11_drop 62 = .ok (.getfield 142, 3) := by decide +kernel
theorem dX11_drop_65 : decode cX11_drop 65 = .ok (.aload_n 2, 1) := by decide +kernel
theorem dX11_drop_66 : decode cX11_drop 66 = .ok (.getfield 137, 3) := by decide +kernel
theorem dX11_drop_69 : decode cX11_drop 69 = .ok (.isub, 1) := by decide +kernel
theorem dX11_drop_70 : decode cX11_drop 70 = .ok (.ireturn, 1) := by decide +kernel
theorem dX11_pass_0 : decode cX11_pass 0 = .ok (.iload_n 1, 1) := by decide +kernel
theorem dX11_pass_1 : decode cX11_pass 1 = .ok (.iconst 1, 1) := by decide +kernel
theorem dX11_pass_2 : decode cX11_pass 2 = .ok (.bipush 99, 2) := by decide +kernel
theorem dX11_pass_4 : decode cX11_pass 4 = .ok (.invokestatic 76, 3) := by decide +kernel
theorem dX11_pass_7 : decode cX11_pass 7 = .ok (.aload_n 0, 1) := by decide +kernel
theorem dX11_pass_8 : decode cX11_pass 8 = .ok (.getfield 33, 3) := by decide +kernel
theorem dX11_pass_11 : decode cX11_pass 11 = .ok (.aload_n 0, 1) := by decide +kernel
theorem dX11_pass_12 : decode cX11_pass 12 = .ok (.getfield 19, 3) := by decide +kernel
theorem dX11_pass_15 : decode cX11_pass 15 = .ok (.invokevirtual 246, 3) := by decide +kernel
theorem dX11_pass_18 : decode cX11_pass 18 = .ok (.iconst 0, 1) := by decide +kernel
theorem dX11_pass_19 : decode cX11_pass 19 = .ok (.istore_n 2, 1) := by decide +kernel
theorem dX11_pass_20 : decode cX11_pass 20 = .ok (.iconst 0, 1) := by decide +kernel
theorem dX11_pass_21 : decode cX11_pass 21 = .ok (.istore_n 3, 1) := by decide +kernel
theorem dX11_pass_22 : decode cX11_pass 22 = .ok (.iload_n 3, 1) := by decide +kernel
theorem dX11_pass_23 : decode cX11_pass 23 = .ok (.iload_n 1, 1) := by decide +kernel
theorem dX11_pass_24 : decode cX11_pass 24 = .ok (.if_icmp .ge 23, 3) := by decide +kernel
theorem dX11_pass_27 : decode cX11_pass 27 = .ok (.iload_n 2, 1) := by decide +kernel
theorem dX11_pass_28 : decode cX11_pass 28 = .ok (.aload_n 0, 1) := by decide +kernel
theorem dX11_pass_29 : decode cX11_pass 29 = .ok (.getfield 19, 3) := by decide +kernel
theorem dX11_pass_32 : decode cX11_pass 32 = .ok (.aload_n 0, 1) := by decide +kernel
theorem dX11_pass_33 : decode cX11_pass 33 = .ok (.getfield 10, 3) := by decide +kernel
theorem dX11_pass_36 : decode cX11_pass 36 = .ok (.invokevirtual 307, 3) := by decide +kernel
theorem dX11_pass_39 : decode cX11_pass 39 = .ok (.iadd, 1) := by decide +kernel
theorem dX11_pass_40 : decode cX11_pass 40 = .ok (.istore_n 2, 1) := by decide +kernel
theorem dX11_pass_41 : decode cX11_pass 41 = .ok (.iinc 3 1, 3) := by decide +kernel
theorem dX11_pass_44 : decode cX11_pass 44 = .ok (.goto (-22), 3) := by decide +kernel
theorem dX11_pass_47 : decode cX11_pass 47 = .ok (.iload_n 2, 1) := by decide +kernel
theorem dX11_pass_48 : decode cX11_pass 48 = .ok (.ireturn, 1) := by decide +kernel
theorem dX11_common_0 : decode cX11_common 0 = .ok (.aload_n 0, 1) := by decide +kernel
theorem dX11_common_1 : decode cX11_common 1 = .ok (.iload_n 1, 1) := by decide +kernel
theorem dX11_common_2 : decode cX11_common 2 = .ok (.invokevirtual 133, 3) := by decide +kernel
theorem dX11_common_5 : decode cX11_common 5 = .ok (.astore_n 3, 1) := by decide +kernel
theorem dX11_common_6 : decode cX11_common 6 = .ok (.aload_n 0, 1) := by decide +kernel
theorem dX11_common_7 : decode cX11_common 7 = .ok (.iload_n 2, 1) := by decide +kernel
theorem dX11_common_8 : decode cX11_common 8 = .ok (.invokevirtual 133, 3) := by decide +kernel
theorem dX11_common_11 : decode cX11_common 11 = .ok (.astore 4, 2) := by decide +kernel
theorem dX11_common_13 : decode cX11_common 13 = .ok (.aload_n 0, 1) := by decide +kernel
theorem dX11_common_14 : decode cX11_common 14 = .ok (.getfield 19, 3) := by decide +kernel
theorem dX11_common_17 : decode cX11_common 17 = .ok (.aload_n 3, 1) := by decide +kernel
theorem dX11_common_18 : decode cX11_common 18 = .ok (.aload 4, 2) := by decide +kernel
theorem dX11_common_20 : decode cX11_common 20 = .ok (.invokevirtual 285, 3) := by decide +kernel
theorem dX11_common_23 : decode cX11_common 23 = .ok (.ireturn, 1) := by decide +kernel
theorem dX11_holder_0 : decode cX11_holder 0 = .ok (.aload_n 0, 1) := by decide +kernel
theorem dX11_holder_1 : decode cX11_holder 1 = .ok (.getfield 19, 3) := by decide +kernel
theorem dX11_holder_4 : decode cX11_holder 4 = .ok (.aload_n 0, 1) := by decide +kernel
theorem dX11_holder_5 : decode cX11_holder 5 = .ok (.iload_n 1, 1) := by decide +kernel
theorem dX11_holder_6 : decode cX11_holder 6 = .ok (.invokevirtual 133, 3) := by decide +kernel
theorem dX11_holder_9 : decode cX11_holder 9 = .ok (.aload_n 0, 1) := by decide +kernel
theorem dX11_holder_10 : decode cX11_holder 10 = .ok (.getfield 10, 3) := by decide +kernel
theorem dX11_holder_13 : decode cX11_holder 13 = .ok (.invokevirtual 311, 3) := by decide +kernel
theorem dX11_holder_16 : decode cX11_holder 16 = .ok (.ireturn, 1) := by decide +kernel
theorem dX11_slowest_0 : decode cX11_slowest 0 = .ok (.aload_n 0, 1) := by decide +kernel
theorem dX11_slowest_1 : decode cX11_slowest 1 = .ok (.getfield 19, 3) := by decide +kernel
theorem dX11_slowest_4 : decode cX11_slowest 4 = .ok (.aload_n 0, 1) := by decide +kernel
theorem dX11_slowest_5 : decode cX11_slowest 5 = .ok (.iload_n 1, 1) := by decide +kernel
theorem dX11_slowest_6 : decode cX11_slowest 6 = .ok (.invokevirtual 133, 3) := by decide +kernel
theorem dX11_slowest_9 : decode cX11_slowest 9 = .ok (.invokevirtual 314, 3) := by decide +kernel
theorem dX11_slowest_12 : decode cX11_slowest 12 = .ok (.ireturn, 1) := by decide +kernel
theorem dX11_cause_0 : decode cX11_cause 0 = .ok (.aload_n 0, 1) := by decide +kernel
theorem dX11_cause_1 : decode cX11_cause 1 = .ok (.getfield 19, 3) := by decide +kernel
theorem dX11_cause_4 : decode cX11_cause 4 = .ok (.aload_n 0, 1) := by decide +kernel
theorem dX11_cause_5 : decode cX11_cause 5 = .ok (.iload_n 1, 1) := by decide +kernel
theorem dX11_cause_6 : decode cX11_cause 6 = .ok (.invokevirtual 133, 3) := by decide +kernel
theorem dX11_cause_9 : decode cX11_cause 9 = .ok (.aload_n 0, 1) := by decide +kernel
theorem dX11_cause_10 : decode cX11_cause 10 = .ok (.getfield 10, 3) := by decide +kernel
theorem dX11_cause_13 : decode cX11_cause 13 = .ok (.invokevirtual 317, 3) := by decide +kernel
theorem dX11_cause_16 : decode cX11_cause 16 = .ok (.ireturn, 1) := by decide +kernel
theorem dX11_latest_0 : decode cX11_latest 0 = .ok (.aload_n 0, 1) := by decide +kernel
theorem dX11_latest_1 : decode cX11_latest 1 = .ok (.iload_n 1, 1) := by decide +kernel
theorem dX11_latest_2 : decode cX11_latest 2 = .ok (.invokevirtual 133, 3) := by decide +kernel
theorem dX11_latest_5 : decode cX11_latest 5 = .ok (.astore_n 3, 1) := by decide +kernel
theorem dX11_latest_6 : decode cX11_latest 6 = .ok (.iload_n 2, 1) := by decide +kernel
theorem dX11_latest_7 : decode cX11_latest 7 = .ok (.iconst 0, 1) := by decide +kernel
theorem dX11_latest_8 : decode cX11_latest 8 = .ok (.bipush 9, 2) := by decide +kernel
theorem dX11_latest_10 : decode cX11_latest 10 = .ok (.invokestatic 76, 3) := by decide +kernel
theorem dX11_latest_13 : decode cX11_latest 13 = .ok (.aload_n 3, 1) := by decide +kernel
theorem dX11_latest_14 : decode cX11_latest 14 = .ok (.iload_n 2, 1) := by decide +kernel
theorem dX11_latest_15 : decode cX11_latest 15 = .ok (.invokevirtual 320, 3) := by decide +kernel
theorem dX11_latest_18 : decode cX11_latest 18 = .ok (.ireturn, 1) := by decide +kernel
theorem dX11_mean_0 : decode cX11_mean 0 = .ok (.aload_n 0, 1) := by decide +kernel
theorem dX11_mean_1 : decode cX11_mean 1 = .ok (.iload_n 1, 1) := by decide +kernel
theorem dX11_mean_2 : decode cX11_mean 2 = .ok (.invokevirtual 133, 3) := by decide +kernel
theorem dX11_mean_5 : decode cX11_mean 5 = .ok (.astore_n 2, 1) := by decide +kernel
theorem dX11_mean_6 : decode cX11_mean 6 = .ok (.aload_n 2, 1) := by decide +kernel
theorem dX11_mean_7 : decode cX11_mean 7 = .ok (.getfield 142, 3) := by decide +kernel
theorem dX11_mean_10 : decode cX11_mean 10 = .ok (.aload_n 2, 1) := by decide +kernel
theorem dX11_mean_11 : decode cX11_mean 11 = .ok (.getfield 137, 3) := by decide +kernel
theorem dX11_mean_14 : decode cX11_mean 14 = .ok (.isub, 1) := by decide +kernel
theorem dX11_mean_15 : decode cX11_mean 15 = .ok (.istore_n 3, 1) := by decide +kernel
theorem dX11_mean_16 : decode cX11_mean 16 = .ok (.iload_n 3, 1) := by decide +kernel
theorem dX11_mean_17 : decode cX11_mean 17 = .ok (.ifCond .gt 5, 3) := by decide +kernel
theorem dX11_mean_20 : decode cX11_mean 20 = .ok (.dconst 0, 1) := by decide +kernel
theorem dX11_mean_21 : decode cX11_mean 21 = .ok (.dreturn, 1) := by decide +kernel
theorem dX11_mean_22 : decode cX11_mean 22 = .ok (.aload_n 2, 1) := by decide +kernel
theorem dX11_mean_23 : decode cX11_mean 23 = .ok (.invokevirtual 321, 3) := by decide +kernel
theorem dX11_mean_26 : decode cX11_mean 26 = .ok (.i2d, 1) := by decide +kernel
theorem dX11_mean_27 : decode cX11_mean 27 = .ok (.iload_n 3, 1) := by decide +kernel
theorem dX11_mean_28 : decode cX11_mean 28 = .ok (.i2d, 1) := by decide +kernel
theorem dX11_mean_29 : decode cX11_mean 29 = .ok (.ddiv, 1) := by decide +kernel
theorem dX11_mean_30 : decode cX11_mean 30 = .ok (.dreturn, 1) := by decide +kernel
theorem dX11_trust_0 : decode cX11_trust 0 = .ok (.aload_n 0, 1) := by decide +kernel
theorem dX11_trust_1 : decode cX11_trust 1 = .ok (.iload_n 1, 1) := by decide +kernel
theorem dX11_trust_2 : decode cX11_trust 2 = .ok (.invokevirtual 187, 3) := by decide +kernel
theorem dX11_trust_5 : decode cX11_trust 5 = .ok (.astore_n 2, 1) := by decide +kernel
theorem dX11_trust_6 : decode cX11_trust 6 = .ok (.aload_n 2, 1) := by decide +kernel
theorem dX11_trust_7 : decode cX11_trust 7 = .ok (.getfield 209, 3) := by decide +kernel
theorem dX11_trust_10 : decode cX11_trust 10 = .ok (.aload_n 2, 1) := by decide +kernel
theorem dX11_trust_11 : decode cX11_trust 11 = .ok (.getfield 212, 3) := by decide +kernel
theorem dX11_trust_14 : decode cX11_trust 14 = .ok (.iadd, 1) := by decide +kernel
theorem dX11_trust_15 : decode cX11_trust 15 = .ok (.istore_n 3, 1) := by decide +kernel
theorem dX11_trust_16 : decode cX11_trust 16 = .ok (.iload_n 3, 1) := by decide +kernel
theorem dX11_trust_17 : decode cX11_trust 17 = .ok (.ifCond .gt 5, 3) := by decide +kernel
theorem dX11_trust_20 : decode cX11_trust 20 = .ok (.fconst 1, 1) := by decide +kernel
theorem dX11_trust_21 : decode cX11_trust 21 = .ok (.freturn, 1) := by decide +kernel
theorem dX11_trust_22 : decode cX11_trust 22 = .ok (.aload_n 2, 1) := by decide +kernel
theorem dX11_trust_23 : decode cX11_trust 23 = .ok (.getfield 209, 3) := by decide +kernel
theorem dX11_trust_26 : decode cX11_trust 26 = .ok (.i2f, 1) := by decide +kernel
theorem dX11_trust_27 : decode cX11_trust 27 = .ok (.iload_n 3, 1) := by decide +kernel
theorem dX11_trust_28 : decode cX11_trust 28 = .ok (.i2f, 1) := by decide +kernel
theorem dX11_trust_29 : decode cX11_trust 29 = .ok (.fdiv, 1) := by decide +kernel
theorem dX11_trust_30 : decode cX11_trust 30 = .ok (.freturn, 1) := by decide +kernel
theorem dX11_ahead_0 : decode cX11_ahead 0 = .ok (.iload_n 1, 1) := by decide +kernel
theorem dX11_ahead_1 : decode cX11_ahead 1 = .ok (.iconst 1, 1) := by decide +kernel
theorem dX11_ahead_2 : decode cX11_ahead 2 = .ok (.bipush 99, 2) := by decide +kernel
theorem dX11_ahead_4 : decode cX11_ahead 4 = .ok (.invokestatic 76, 3) := by decide +kernel
theorem dX11_ahead_7 : decode cX11_ahead 7 = .ok (.iload_n 2, 1) := by decide +kernel
theorem dX11_ahead_8 : decode cX11_ahead 8 = .ok (.iconst 0, 1) := by decide +kernel
theorem dX11_ahead_9 : decode cX11_ahead 9 = .ok (.iconst 3, 1) := by decide +kernel
theorem dX11_ahead_10 : decode cX11_ahead 10 = .ok (.invokestatic 76, 3) := by decide +kernel
theorem dX11_ahead_13 : decode cX11_ahead 13 = .ok (.aload_n 0, 1) := by decide +kernel
theorem dX11_ahead_14 : decode cX11_ahead 14 = .ok (.getfield 23, 3) := by decide +kernel
theorem dX11_ahead_17 : decode cX11_ahead 17 = .ok (.aload_n 0, 1) := by decide +kernel
theorem dX11_ahead_18 : decode cX11_ahead 18 = .ok (.getfield 19, 3) := by decide +kernel
theorem dX11_ahead_21 : decode cX11_ahead 21 = .ok (.invokevirtual 324, 3) := by decide +kernel
theorem dX11_ahead_24 : decode cX11_ahead 24 = .ok (.iconst 0, 1) := by decide +kernel
theorem dX11_ahead_25 : decode cX11_ahead 25 = .ok (.istore_n 3, 1) := by decide +kernel
theorem dX11_ahead_26 : decode cX11_ahead 26 = .ok (.iconst 0, 1) := by decide +kernel
theorem dX11_ahead_27 : decode cX11_ahead 27 = .ok (.istore 4, 2) := by decide +kernel
theorem dX11_ahead_29 : decode cX11_ahead 29 = .ok (.iload 4, 2) := by decide +kernel
theorem dX11_ahead_31 : decode cX11_ahead 31 = .ok (.iload_n 1, 1) := by decide +kernel
theorem dX11_ahead_32 : decode cX11_ahead 32 = .ok (.if_icmp .ge 23, 3) := by decide +kernel
theorem dX11_ahead_35 : decode cX11_ahead 35 = .ok (.iload_n 3, 1) := by decide +kernel
theorem dX11_ahead_36 : decode cX11_ahead 36 = .ok (.aload_n 0, 1) := by decide +kernel
theorem dX11_ahead_37 : decode cX11_ahead 37 = .ok (.getfield 23, 3) := by decide +kernel
theorem dX11_ahead_40 : decode cX11_ahead 40 = .ok (.aload_n 0, 1) := by decide +kernel
theorem dX11_ahead_41 : decode cX11_ahead 41 = .ok (.getfield 10, 3) := by decide +kernel
theorem dX11_ahead_44 : decode cX11_ahead 44 = .ok (.invokevirtual 307, 3) := by decide +kernel
theorem dX11_ahead_47 : decode cX11_ahead 47 = .ok (.iadd, 1) := by decide +kernel
theorem dX11_ahead_48 : decode cX11_ahead 48 = .ok (.istore_n 3, 1) := by decide +kernel
theorem dX11_ahead_49 : decode cX11_ahead 49 = .ok (.iinc 4 1, 3) := by decide +kernel
theorem dX11_ahead_52 : decode cX11_ahead 52 = .ok (.goto (-23), 3) := by decide +kernel
theorem dX11_ahead_55 : decode cX11_ahead 55 = .ok (.iload_n 2, 1) := by decide +kernel
theorem dX11_ahead_56 : decode cX11_ahead 56 = .ok (.tableswitch 62 0 2 #[28, 30, 46], 28) := by decide +kernel
theorem dX11_ahead_84 : decode cX11_ahead 84 = .ok (.iload_n 3, 1) := by decide +kernel
theorem dX11_ahead_85 : decode cX11_ahead 85 = .ok (.ireturn, 1) := by decide +kernel
theorem dX11_ahead_86 : decode cX11_ahead 86 = .ok (.aload_n 0, 1) := by decide +kernel
theorem dX11_ahead_87 : decode cX11_ahead 87 = .ok (.getfield 23, 3) := by decide +kernel
theorem dX11_ahead_90 : decode cX11_ahead 90 = .ok (.invokevirtual 327, 3) := by decide +kernel
theorem dX11_ahead_93 : decode cX11_ahead 93 = .ok (.aload_n 0, 1) := by decide +kernel
theorem dX11_ahead_94 : decode cX11_ahead 94 = .ok (.getfield 19, 3) := by decide +kernel
theorem dX11_ahead_97 : decode cX11_ahead 97 = .ok (.invokevirtual 327, 3) := by decide +kernel
theorem dX11_ahead_100 : decode cX11_ahead 100 = .ok (.isub, 1) := by decide +kernel
theorem dX11_ahead_101 : decode cX11_ahead 101 = .ok (.ireturn, 1) := by decide +kernel
theorem dX11_ahead_102 : decode cX11_ahead 102 = .ok (.aload_n 0, 1) := by decide +kernel
theorem dX11_ahead_103 : decode cX11_ahead 103 = .ok (.getfield 23, 3) := by decide +kernel
theorem dX11_ahead_106 : decode cX11_ahead 106 = .ok (.invokevirtual 330, 3) := by decide +kernel
theorem dX11_ahead_109 : decode cX11_ahead 109 = .ok (.aload_n 0, 1) := by decide +kernel
theorem dX11_ahead_110 : decode cX11_ahead 110 = .ok (.getfield 19, 3) := by decide +kernel
theorem dX11_ahead_113 : decode cX11_ahead 113 = .ok (.invokevirtual 330, 3) := by decide +kernel
theorem dX11_ahead_116 : decode cX11_ahead 116 = .ok (.isub, 1) := by decide +kernel
theorem dX11_ahead_117 : decode cX11_ahead 117 = .ok (.ireturn, 1) := by decide +kernel
theorem dX11_ahead_118 : decode cX11_ahead 118 = .ok (.aload_n 0, 1) := by decide +kernel
theorem dX11_ahead_119 : decode cX11_ahead 119 = .ok (.getfield 23, 3) := by decide +kernel
theorem dX11_ahead_122 : decode cX11_ahead 122 = .ok (.invokevirtual 333, 3) := by decide +kernel
theorem dX11_ahead_125 : decode cX11_ahead 125 = .ok (.ireturn, 1) := by decide +kernel
theorem dX11_losesIn_0 : decode cX11_losesIn 0 = .ok (.aload_n 0, 1) := by decide +kernel
theorem dX11_losesIn_1 : decode cX11_losesIn 1 = .ok (.iload_n 1, 1) := by decide +kernel
theorem dX11_losesIn_2 : decode cX11_losesIn 2 = .ok (.invokevirtual 187, 3) := by decide +kernel
theorem dX11_losesIn_5 : decode cX11_losesIn 5 = .ok (.astore_n 3, 1) := by decide +kernel
theorem dX11_losesIn_6 : decode cX11_losesIn 6 = .ok (.iload_n 2, 1) := by decide +kernel
theorem dX11_losesIn_7 : decode cX11_losesIn 7 = .ok (.iconst 1, 1) := by decide +kernel
theorem dX11_losesIn_8 : decode cX11_losesIn 8 = .ok (.sipush 200, 3) := by decide +kernel
theorem dX11_losesIn_11 : decode cX11_losesIn 11 = .ok (.invokestatic 76, 3) := by decide +kernel
theorem dX11_losesIn_14 : decode cX11_losesIn 14 = .ok (.aload_n 0, 1) := by decide +kernel
theorem dX11_losesIn_15 : decode cX11_losesIn 15 = .ok (.getfield 23, 3) := by decide +kernel
theorem dX11_losesIn_18 : decode cX11_losesIn 18 = .ok (.aload_n 0, 1) := by decide +kernel
theorem dX11_losesIn_19 : decode cX11_losesIn 19 = .ok (.getfield 19, 3) := by decide +kernel
theorem dX11_losesIn_22 : decode cX11_losesIn 22 = .ok (.invokevirtual 324, 3) := by decide +kernel
theorem dX11_losesIn_25 : decode cX11_losesIn 25 = .ok (.iconst 1, 1) := by decide +kernel
theorem dX11_losesIn_26 : decode cX11_losesIn 26 = .ok (.istore 4, 2) := by decide +kernel
theorem dX11_losesIn_28 : decode cX11_losesIn 28 = .ok (.iload 4, 2) := by decide +kernel
theorem dX11_losesIn_30 : decode cX11_losesIn 30 = .ok (.iload_n 2, 1) := by decide +kernel
theorem dX11_losesIn_31 : decode cX11_losesIn 31 = .ok (.if_icmp .gt 42, 3) := by decide +kernel
theorem dX11_losesIn_34 : decode cX11_losesIn 34 = .ok (.aload_n 0, 1) := by decide +kernel
theorem dX11_losesIn_35 : decode cX11_losesIn 35 = .ok (.getfield 23, 3) := by decide +kernel
theorem dX11_losesIn_38 : decode cX11_losesIn 38 = .ok (.aload_n 0, 1) := by decide +kernel
theorem dX11_losesIn_39 : decode cX11_losesIn 39 = .ok (.getfield 10, 3) := by decide +kernel
theorem dX11_losesIn_42 : decode cX11_losesIn 42 = .ok (.invokevirtual 307, 3) := by decide +kernel
theorem dX11_losesIn_45 : decode cX11_losesIn 45 = .ok (.pop, 1) := by decide +kernel
theorem dX11_losesIn_46 : decode cX11_losesIn 46 = .ok (.aload_n 0, 1) := by decide +kernel
theorem dX11_losesIn_47 : decode cX11_losesIn 47 = .ok (.getfield 23, 3) := by decide +kernel
theorem dX11_losesIn_50 : decode cX11_losesIn 50 = .ok (.iload_n 1, 1) := by decide +kernel
theorem dX11_losesIn_51 : decode cX11_losesIn 51 = .ok (.invokevirtual 336, 3) := by decide +kernel
theorem dX11_losesIn_54 : decode cX11_losesIn 54 = .ok (.aload_n 3, 1) := by decide +kernel
theorem dX11_losesIn_55 : decode cX11_losesIn 55 = .ok (.getfield 228, 3) := by decide +kernel
theorem dX11_losesIn_58 : decode cX11_losesIn 58 = .ok (.getfield 274, 3) := by decide +kernel
theorem dX11_losesIn_61 : decode cX11_losesIn 61 = .ok (.if_icmp .eq 6, 3) := by decide +kernel
theorem dX11_losesIn_64 : decode cX11_losesIn 64 = .ok (.iload 4, 2) := by decide +kernel
theorem dX11_losesIn_66 : decode cX11_losesIn 66 = .ok (.ireturn, 1) := by decide +kernel
theorem dX11_losesIn_67 : decode cX11_losesIn 67 = .ok (.iinc 4 1, 3) := by decide +kernel
theorem dX11_losesIn_70 : decode cX11_losesIn 70 = .ok (.goto (-42), 3) := by decide +kernel
theorem dX11_losesIn_73 : decode cX11_losesIn 73 = .ok (.iconst (-1), 1) := by decide +kernel
theorem dX11_losesIn_74 : decode cX11_losesIn 74 = .ok (.ireturn, 1) := by decide +kernel
theorem dX11_wouldCut_0 : decode cX11_wouldCut 0 = .ok (.aload_n 0, 1) := by decide +kernel
theorem dX11_wouldCut_1 : decode cX11_wouldCut 1 = .ok (.iload_n 1, 1) := by decide +kernel
theorem dX11_wouldCut_2 : decode cX11_wouldCut 2 = .ok (.invokevirtual 133, 3) := by decide +kernel
theorem dX11_wouldCut_5 : decode cX11_wouldCut 5 = .ok (.pop, 1) := by decide +kernel
theorem dX11_wouldCut_6 : decode cX11_wouldCut 6 = .ok (.iload_n 2, 1) := by decide +kernel
theorem dX11_wouldCut_7 : decode cX11_wouldCut 7 = .ok (.iconst 1, 1) := by decide +kernel
theorem dX11_wouldCut_8 : decode cX11_wouldCut 8 = .ok (.bipush 9, 2) := by decide +kernel
theorem dX11_wouldCut_10 : decode cX11_wouldCut 10 = .ok (.invokestatic 76, 3) := by decide +kernel
theorem dX11_wouldCut_13 : decode cX11_wouldCut 13 = .ok (.aload_n 0, 1) := by decide +kernel
theorem dX11_wouldCut_14 : decode cX11_wouldCut 14 = .ok (.getfield 23, 3) := by decide +kernel
theorem dX11_wouldCut_17 : decode cX11_wouldCut 17 = .ok (.aload_n 0, 1) := by decide +kernel
theorem dX11_wouldCut_18 : decode cX11_wouldCut 18 = .ok (.getfield 19, 3) := by decide +kernel
theorem dX11_wouldCut_21 : decode cX11_wouldCut 21 = .ok (.invokevirtual 324, 3) := by decide +kernel
theorem dX11_wouldCut_24 : decode cX11_wouldCut 24 = .ok (.aload_n 0, 1) := by decide +kernel
theorem dX11_wouldCut_25 : decode cX11_wouldCut 25 = .ok (.getfield 23, 3) := by decide +kernel
theorem dX11_wouldCut_28 : decode cX11_wouldCut 28 = .ok (.iload_n 1, 1) := by decide +kernel
theorem dX11_wouldCut_29 : decode cX11_wouldCut 29 = .ok (.invokevirtual 339, 3) := by decide +kernel
theorem dX11_wouldCut_32 : decode cX11_wouldCut 32 = .ok (.astore_n 3, 1) := by decide +kernel
theorem dX11_wouldCut_33 : decode cX11_wouldCut 33 = .ok (.aload_n 3, 1) := by decide +kernel
theorem dX11_wouldCut_34 : decode cX11_wouldCut 34 = .ok (.ifnonnull 5, 3) := by decide +kernel
theorem dX11_wouldCut_37 : decode cX11_wouldCut 37 = .ok (.iconst 0, 1) := by decide +kernel
theorem dX11_wouldCut_38 : decode cX11_wouldCut 38 = .ok (.ireturn, 1) := by decide +kernel
theorem dX11_wouldCut_39 : decode cX11_wouldCut 39 = .ok (.aload_n 3, 1) := by decide +kernel
theorem dX11_wouldCut_40 : decode cX11_wouldCut 40 = .ok (.new 172, 3) := by decide +kernel
theorem dX11_wouldCut_43 : decode cX11_wouldCut 43 = .ok (.dup, 1) := by decide +kernel
theorem dX11_wouldCut_44 : decode cX11_wouldCut 44 = .ok (.aload_n 0, 1) := by decide +kernel
theorem dX11_wouldCut_45 : decode cX11_wouldCut 45 = .ok (.getfield 19, 3) := by decide +kernel
theorem dX11_wouldCut_48 : decode cX11_wouldCut 48 = .ok (.getfield 111, 3) := by decide +kernel
theorem dX11_wouldCut_51 : decode cX11_wouldCut 51 = .ok (.iconst 0, 1) := by decide +kernel
theorem dX11_wouldCut_52 : decode cX11_wouldCut 52 = .ok (.iload_n 2, 1) := by decide +kernel
theorem dX11_wouldCut_53 : decode cX11_wouldCut 53 = .ok (.iconst 0, 1) := by decide +kernel
theorem dX11_wouldCut_54 : decode cX11_wouldCut 54 = .ok (.invokespecial 249, 3) := by decide +kernel
theorem dX11_wouldCut_57 : decode cX11_wouldCut 57 = .ok (.invokevirtual 252, 3) := by decide +kernel
theorem dX11_wouldCut_60 : decode cX11_wouldCut 60 = .ok (.aload_n 0, 1) := by decide +kernel
theorem dX11_wouldCut_61 : decode cX11_wouldCut 61 = .ok (.getfield 23, 3) := by decide +kernel
theorem dX11_wouldCut_64 : decode cX11_wouldCut 64 = .ok (.aload_n 3, 1) := by decide +kernel
theorem dX11_wouldCut_65 : decode cX11_wouldCut 65 = .ok (.aload_n 0, 1) := by decide +kernel
theorem dX11_wouldCut_66 : decode cX11_wouldCut 66 = .ok (.getfield 10, 3) := by decide +kernel
theorem dX11_wouldCut_69 : decode cX11_wouldCut 69 = .ok (.invokevirtual 256, 3) := by decide +kernel
theorem dX11_wouldCut_72 : decode cX11_wouldCut 72 = .ok (.ireturn, 1) := by decide +kernel
theorem dX11_unread_0 : decode cX11_unread 0 = .ok (.aload_n 0, 1) := by decide +kernel
theorem dX11_unread_1 : decode cX11_unread 1 = .ok (.iload_n 1, 1) := by decide +kernel
theorem dX11_unread_2 : decode cX11_unread 2 = .ok (.invokevirtual 187, 3) := by decide +kernel
theorem dX11_unread_5 : decode cX11_unread 5 = .ok (.astore_n 3, 1) := by decide +kernel
theorem dX11_unread_6 : decode cX11_unread 6 = .ok (.iload_n 2, 1) := by decide +kernel
theorem dX11_unread_7 : decode cX11_unread 7 = .ok (.iconst 0, 1) := by decide +kernel
theorem dX11_unread_8 : decode cX11_unread 8 = .ok (.bipush 9, 2) := by decide +kernel
theorem dX11_unread_10 : decode cX11_unread 10 = .ok (.invokestatic 76, 3) := by decide +kernel
theorem dX11_unread_13 : decode cX11_unread 13 = .ok (.aload_n 0, 1) := by decide +kernel
theorem dX11_unread_14 : decode cX11_unread 14 = .ok (.getfield 19, 3) := by decide +kernel
theorem dX11_unread_17 : decode cX11_unread 17 = .ok (.aload_n 3, 1) := by decide +kernel
theorem dX11_unread_18 : decode cX11_unread 18 = .ok (.invokevirtual 191, 3) := by decide +kernel
theorem dX11_unread_21 : decode cX11_unread 21 = .ok (.aload_n 3, 1) := by decide +kernel
theorem dX11_unread_22 : decode cX11_unread 22 = .ok (.getfield 200, 3) := by decide +kernel
theorem dX11_unread_25 : decode cX11_unread 25 = .ok (.iload_n 2, 1) := by decide +kernel
theorem dX11_unread_26 : decode cX11_unread 26 = .ok (.invokevirtual 342, 3) := by decide +kernel
theorem dX11_unread_29 : decode cX11_unread 29 = .ok (.ireturn, 1) := by decide +kernel
theorem dX11_promised_0 : decode cX11_promised 0 = .ok (.iload_n 1, 1) := by decide +kernel
theorem dX11_promised_1 : decode cX11_promised 1 = .ok (.ifCond .ge 11, 3) := by decide +kernel
theorem dX11_promised_4 : decode cX11_promised 4 = .ok (.new 168, 3) := by decide +kernel
theorem dX11_promised_7 : decode cX11_promised 7 = .ok (.dup, 1) := by decide +kernel
theorem dX11_promised_8 : decode cX11_promised 8 = .ok (.invokespecial 170, 3) := by decide +kernel
theorem dX11_promised_11 : decode cX11_promised 11 = .ok (.athrow, 1) := by decide +kernel
theorem dX11_promised_12 : decode cX11_promised 12 = .ok (.aload_n 0, 1) := by decide +kernel
theorem dX11_promised_13 : decode cX11_promised 13 = .ok (.getfield 19, 3) := by decide +kernel
theorem dX11_promised_16 : decode cX11_promised 16 = .ok (.iload_n 1, 1) := by decide +kernel
theorem dX11_promised_17 : decode cX11_promised 17 = .ok (.invokevirtual 345, 3) := by decide +kernel
theorem dX11_promised_20 : decode cX11_promised 20 = .ok (.ireturn, 1) := by decide +kernel
theorem dX11_age_0 : decode cX11_age 0 = .ok (.aload_n 0, 1) := by decide +kernel
theorem dX11_age_1 : decode cX11_age 1 = .ok (.iload_n 1, 1) := by decide +kernel
theorem dX11_age_2 : decode cX11_age 2 = .ok (.invokevirtual 133, 3) := by decide +kernel
theorem dX11_age_5 : decode cX11_age 5 = .ok (.astore_n 2, 1) := by decide +kernel
theorem dX11_age_6 : decode cX11_age 6 = .ok (.aload_n 2, 1) := by decide +kernel
theorem dX11_age_7 : decode cX11_age 7 = .ok (.aload_n 2, 1) := by decide +kernel
theorem dX11_age_8 : decode cX11_age 8 = .ok (.getfield 137, 3) := by decide +kernel
theorem dX11_age_11 : decode cX11_age 11 = .ok (.invokevirtual 164, 3) := by decide +kernel
theorem dX11_age_14 : decode cX11_age 14 = .ok (.astore_n 3, 1) := by decide +kernel
theorem dX11_age_15 : decode cX11_age 15 = .ok (.aload_n 3, 1) := by decide +kernel
theorem dX11_age_16 : decode cX11_age 16 = .ok (.ifnonnull 7, 3) := by decide +kernel
theorem dX11_age_19 : decode cX11_age 19 = .ok (.iconst (-1), 1) := by decide +kernel
theorem dX11_age_20 : decode cX11_age 20 = .ok (.goto 15, 3) := by decide +kernel
theorem dX11_age_23 : decode cX11_age 23 = .ok (.aload_n 0, 1) := by decide +kernel
theorem dX11_age_24 : decode cX11_age 24 = .ok (.getfield 19, 3) := by decide +kernel
theorem dX11_age_27 : decode cX11_age 27 = .ok (.getfield 111, 3) := by decide +kernel
theorem dX11_age_30 : decode cX11_age 30 = .ok (.aload_n 3, 1) := by decide +kernel
theorem dX11_age_31 : decode cX11_age 31 = .ok (.getfield 171, 3) := by decide +kernel
theorem dX11_age_34 : decode cX11_age 34 = .ok (.isub, 1) := by decide +kernel
theorem dX11_age_35 : decode cX11_age 35 = .ok (.ireturn, 1) := by decide +kernel
theorem dX11_write_0 : decode cX11_write 0 = .ok (.aload_n 0, 1) := by decide +kernel
theorem dX11_write_1 : decode cX11_write 1 = .ok (.iload_n 1, 1) := by decide +kernel
theorem dX11_write_2 : decode cX11_write 2 = .ok (.invokevirtual 133, 3) := by decide +kernel
theorem dX11_write_5 : decode cX11_write 5 = .ok (.astore_n 2, 1) := by decide +kernel
theorem dX11_write_6 : decode cX11_write 6 = .ok (.aload_n 0, 1) := by decide +kernel
theorem dX11_write_7 : decode cX11_write 7 = .ok (.getfield 54, 3) := by decide +kernel
theorem dX11_write_10 : decode cX11_write 10 = .ok (.iconst 0, 1) := by decide +kernel
theorem dX11_write_11 : decode cX11_write 11 = .ok (.invokevirtual 348, 3) := by decide +kernel
theorem dX11_write_14 : decode cX11_write 14 = .ok (.aload_n 0, 1) := by decide +kernel
theorem dX11_write_15 : decode cX11_write 15 = .ok (.getfield 54, 3) := by decide +kernel
theorem dX11_write_18 : decode cX11_write 18 = .ok (.iload_n 1, 1) := by decide +kernel
theorem dX11_write_19 : decode cX11_write 19 = .ok (.invokevirtual 351, 3) := by decide +kernel
theorem dX11_write_22 : decode cX11_write 22 = .ok (.pop, 1) := by decide +kernel
theorem dX11_write_23 : decode cX11_write 23 = .ok (.aload_n 0, 1) := by decide +kernel
theorem dX11_write_24 : decode cX11_write 24 = .ok (.getfield 54, 3) := by decide +kernel
theorem dX11_write_27 : decode cX11_write 27 = .ok (.bipush 58, 2) := by decide +kernel
theorem dX11_write_29 : decode cX11_write 29 = .ok (.invokevirtual 355, 3) := by decide +kernel
theorem dX11_write_32 : decode cX11_write 32 = .ok (.pop, 1) := by decide +kernel
theorem dX11_write_33 : decode cX11_write 33 = .ok (.aload_n 0, 1) := by decide +kernel
theorem dX11_write_34 : decode cX11_write 34 = .ok (.getfield 54, 3) := by decide +kernel
theorem dX11_write_37 : decode cX11_write 37 = .ok (.aload_n 2, 1) := by decide +kernel
theorem dX11_write_38 : decode cX11_write 38 = .ok (.getfield 137, 3) := by decide +kernel
theorem dX11_write_41 : decode cX11_write 41 = .ok (.invokevirtual 351, 3) := by decide +kernel
theorem dX11_write_44 : decode cX11_write 44 = .ok (.pop, 1) := by decide +kernel
theorem dX11_write_45 : decode cX11_write 45 = .ok (.aload_n 0, 1) := by decide +kernel
theorem dX11_write_46 : decode cX11_write 46 = .ok (.getfield 54, 3) := by decide +kernel
theorem dX11_write_49 : decode cX11_write 49 = .ok (.bipush 45, 2) := by decide +kernel
theorem dX11_write_51 : decode cX11_write 51 = .ok (.invokevirtual 355, 3) := by decide +kernel
theorem dX11_write_54 : decode cX11_write 54 = .ok (.pop, 1) := by decide +kernel
theorem dX11_write_55 : decode cX11_write 55 = .ok (.aload_n 0, 1) := by decide +kernel
theorem dX11_write_56 : decode cX11_write 56 = .ok (.getfield 54, 3) := by decide +kernel
theorem dX11_write_59 : decode cX11_write 59 = .ok (.aload_n 2, 1) := by decide +kernel
theorem dX11_write_60 : decode cX11_write 60 = .ok (.getfield 142, 3) := by decide +kernel
theorem dX11_write_63 : decode cX11_write 63 = .ok (.invokevirtual 351, 3) := by decide +kernel
theorem dX11_write_66 : decode cX11_write 66 = .ok (.pop, 1) := by decide +kernel
theorem dX11_write_67 : decode cX11_write 67 = .ok (.iconst 0, 1) := by decide +kernel
theorem dX11_write_68 : decode cX11_write 68 = .ok (.istore_n 3, 1) := by decide +kernel
theorem dX11_write_69 : decode cX11_write 69 = .ok (.iload_n 3, 1) := by decide +kernel
theorem dX11_write_70 : decode cX11_write 70 = .ok (.bipush 6, 2) := by decide +kernel
theorem dX11_write_72 : decode cX11_write 72 = .ok (.if_icmp .ge 40, 3) := by decide +kernel
theorem dX11_write_75 : decode cX11_write 75 = .ok (.aload_n 0, 1) := by decide +kernel
theorem dX11_write_76 : decode cX11_write 76 = .ok (.getfield 19, 3) := by decide +kernel
theorem dX11_write_79 : decode cX11_write 79 = .ok (.iload_n 3, 1) := by decide +kernel
theorem dX11_write_80 : decode cX11_write 80 = .ok (.invokevirtual 358, 3) := by decide +kernel
theorem dX11_write_83 : decode cX11_write 83 = .ok (.astore 4, 2) := by decide +kernel
theorem dX11_write_85 : decode cX11_write 85 = .ok (.aload 4, 2) := by decide +kernel
theorem dX11_write_87 : decode cX11_write 87 = .ok (.ifnull 19, 3) := by decide +kernel
theorem dX11_write_90 : decode cX11_write 90 = .ok (.aload 4, 2) := by decide +kernel
theorem dX11_write_92 : decode cX11_write 92 = .ok (.aload_n 2, 1) := by decide +kernel
theorem dX11_write_93 : decode cX11_write 93 = .ok (.invokevirtual 361, 3) := by decide +kernel
theorem dX11_write_96 : decode cX11_write 96 = .ok (.ifCond .eq 10, 3) := by decide +kernel
theorem dX11_write_99 : decode cX11_write 99 = .ok (.aload_n 0, 1) := by decide +kernel
theorem dX11_write_100 : decode cX11_write 100 = .ok (.iload_n 3, 1) := by decide +kernel
theorem dX11_write_101 : decode cX11_write 101 = .ok (.aload 4, 2) := by decide +kernel
theorem dX11_write_103 : decode cX11_write 103 = .ok (.invokevirtual 365, 3) := by decide +kernel
theorem dX11_write_106 : decode cX11_write 106 = .ok (.iinc 3 1, 3) := by decide +kernel
theorem dX11_write_109 : decode cX11_write 109 = .ok (.goto (-40), 3) := by decide +kernel
theorem dX11_write_112 : decode cX11_write 112 = .ok (.aload_n 0, 1) := by decide +kernel
theorem dX11_write_113 : decode cX11_write 113 = .ok (.getfield 54, 3) := by decide +kernel
theorem dX11_write_116 : decode cX11_write 116 = .ok (.invokevirtual 369, 3) := by decide +kernel
theorem dX11_write_119 : decode cX11_write 119 = .ok (.ireturn, 1) := by decide +kernel
theorem dX11_output_0 : decode cX11_output 0 = .ok (.iload_n 1, 1) := by decide +kernel
theorem dX11_output_1 : decode cX11_output 1 = .ok (.ifCond .lt 25, 3) := by decide +kernel
theorem dX11_output_4 : decode cX11_output 4 = .ok (.iload_n 1, 1) := by decide +kernel
theorem dX11_output_5 : decode cX11_output 5 = .ok (.aload_n 0, 1) := by decide +kernel
theorem dX11_output_6 : decode cX11_output 6 = .ok (.getfield 54, 3) := by decide +kernel
theorem dX11_output_9 : decode cX11_output 9 = .ok (.invokevirtual 369, 3) := by decide +kernel
theorem dX11_output_12 : decode cX11_output 12 = .ok (.if_icmp .ge 14, 3) := by decide +kernel
theorem dX11_output_15 : decode cX11_output 15 = .ok (.aload_n 0, 1) := by decide +kernel
theorem dX11_output_16 : decode cX11_output 16 = .ok (.getfield 54, 3) := by decide +kernel
theorem dX11_output_19 : decode cX11_output 19 = .ok (.iload_n 1, 1) := by decide +kernel
theorem dX11_output_20 : decode cX11_output 20 = .ok (.invokevirtual 371, 3) := by decide +kernel
theorem dX11_output_23 : decode cX11_output 23 = .ok (.goto 4, 3) := by decide +kernel
theorem dX11_output_26 : decode cX11_output 26 = .ok (.iconst (-1), 1) := by decide +kernel
theorem dX11_output_27 : decode cX11_output 27 = .ok (.ireturn, 1) := by decide +kernel
theorem dX11_undo_0 : decode cX11_undo 0 = .ok (.aload_n 0, 1) := by decide +kernel
theorem dX11_undo_1 : decode cX11_undo 1 = .ok (.getfield 33, 3) := by decide +kernel
theorem dX11_undo_4 : decode cX11_undo 4 = .ok (.aload_n 0, 1) := by decide +kernel
theorem dX11_undo_5 : decode cX11_undo 5 = .ok (.getfield 19, 3) := by decide +kernel
theorem dX11_undo_8 : decode cX11_undo 8 = .ok (.invokevirtual 375, 3) := by decide +kernel
theorem dX11_undo_11 : decode cX11_undo 11 = .ok (.ireturn, 1) := by decide +kernel
theorem dX11_save_0 : decode cX11_save 0 = .ok (.iload_n 1, 1) := by decide +kernel
theorem dX11_save_1 : decode cX11_save 1 = .ok (.iconst 0, 1) := by decide +kernel
theorem dX11_save_2 : decode cX11_save 2 = .ok (.iconst 1, 1) := by decide +kernel
theorem dX11_save_3 : decode cX11_save 3 = .ok (.invokestatic 76, 3) := by decide +kernel
theorem dX11_save_6 : decode cX11_save 6 = .ok (.aload_n 0, 1) := by decide +kernel
theorem dX11_save_7 : decode cX11_save 7 = .ok (.getfield 26, 3) := by decide +kernel
theorem dX11_save_10 : decode cX11_save 10 = .ok (.iload_n 1, 1) := by decide +kernel
theorem dX11_save_11 : decode cX11_save 11 = .ok (.aaload, 1) := by decide +kernel
theorem dX11_save_12 : decode cX11_save 12 = .ok (.astore_n 2, 1) := by decide +kernel
theorem dX11_save_13 : decode cX11_save 13 = .ok (.aload_n 2, 1) := by decide +kernel
theorem dX11_save_14 : decode cX11_save 14 = .ok (.ifnonnull 18, 3) := by decide +kernel
theorem dX11_save_17 : decode cX11_save 17 = .ok (.new 16, 3) := by decide +kernel
theorem dX11_save_20 : decode cX11_save 20 = .ok (.dup, 1) := by decide +kernel
theorem dX11_save_21 : decode cX11_save 21 = .ok (.invokespecial 18, 3) := by decide +kernel
theorem dX11_save_24 : decode cX11_save 24 = .ok (.astore_n 2, 1) := by decide +kernel
theorem dX11_save_25 : decode cX11_save 25 = .ok (.aload_n 0, 1) := by decide +kernel
theorem dX11_save_26 : decode cX11_save 26 = .ok (.getfield 26, 3) := by decide +kernel
theorem dX11_save_29 : decode cX11_save 29 = .ok (.iload_n 1, 1) := by decide +kernel
theorem dX11_save_30 : decode cX11_save 30 = .ok (.aload_n 2, 1) := by decide +kernel
theorem dX11_save_31 : decode cX11_save 31 = .ok (.aastore, 1) := by decide +kernel
theorem dX11_save_32 : decode cX11_save 32 = .ok (.aload_n 2, 1) := by decide +kernel
theorem dX11_save_33 : decode cX11_save 33 = .ok (.aload_n 0, 1) := by decide +kernel
theorem dX11_save_34 : decode cX11_save 34 = .ok (.getfield 19, 3) := by decide +kernel
theorem dX11_save_37 : decode cX11_save 37 = .ok (.invokevirtual 324, 3) := by decide +kernel
theorem dX11_save_40 : decode cX11_save 40 = .ok (.return_, 1) := by decide +kernel
theorem dX11_restore_0 : decode cX11_restore 0 = .ok (.iload_n 1, 1) := by decide +kernel
theorem dX11_restore_1 : decode cX11_restore 1 = .ok (.iconst 0, 1) := by decide +kernel
theorem dX11_restore_2 : decode cX11_restore 2 = .ok (.iconst 1, 1) := by decide +kernel
theorem dX11_restore_3 : decode cX11_restore 3 = .ok (.invokestatic 76, 3) := by decide +kernel
theorem dX11_restore_6 : decode cX11_restore 6 = .ok (.aload_n 0, 1) := by decide +kernel
theorem dX11_restore_7 : decode cX11_restore 7 = .ok (.getfield 26, 3) := by decide +kernel
theorem dX11_restore_10 : decode cX11_restore 10 = .ok (.iload_n 1, 1) := by decide +kernel
theorem dX11_restore_11 : decode cX11_restore 11 = .ok (.aaload, 1) := by decide +kernel
theorem dX11_restore_12 : decode cX11_restore 12 = .ok (.astore_n 2, 1) := by decide +kernel
theorem dX11_restore_13 : decode cX11_restore 13 = .ok (.aload_n 2, 1) := by decide +kernel
theorem dX11_restore_14 : decode cX11_restore 14 = .ok (.ifnonnull 11, 3) := by decide +kernel
theorem dX11_restore_17 : decode cX11_restore 17 = .ok (.new 65, 3) := by decide +kernel
theorem dX11_restore_20 : decode cX11_restore 20 = .ok (.dup, 1) := by decide +kernel
theorem dX11_restore_21 : decode cX11_restore 21 = .ok (.invokespecial 67, 3) := by decide +kernel
theorem dX11_restore_24 : decode cX11_restore 24 = .ok (.athrow, 1) := by decide +kernel
theorem dX11_restore_25 : decode cX11_restore 25 = .ok (.aload_n 0, 1) := by decide +kernel
theorem dX11_restore_26 : decode cX11_restore 26 = .ok (.getfield 19, 3) := by decide +kernel
theorem dX11_restore_29 : decode cX11_restore 29 = .ok (.aload_n 2, 1) := by decide +kernel
theorem dX11_restore_30 : decode cX11_restore 30 = .ok (.invokevirtual 324, 3) := by decide +kernel
theorem dX11_restore_33 : decode cX11_restore 33 = .ok (.aload_n 0, 1) := by decide +kernel
theorem dX11_restore_34 : decode cX11_restore 34 = .ok (.getfield 33, 3) := by decide +kernel
theorem dX11_restore_37 : decode cX11_restore 37 = .ok (.iconst 0, 1) := by decide +kernel
theorem dX11_restore_38 : decode cX11_restore 38 = .ok (.putfield 127, 3) := by decide +kernel
theorem dX11_restore_41 : decode cX11_restore 41 = .ok (.return_, 1) := by decide +kernel
theorem dX11_needRange_0 : decode cX11_needRange 0 = .ok (.iload_n 0, 1) := by decide +kernel
theorem dX11_needRange_1 : decode cX11_needRange 1 = .ok (.iload_n 1, 1) := by decide +kernel
theorem dX11_needRange_2 : decode cX11_needRange 2 = .ok (.if_icmp .lt 8, 3) := by decide +kernel
theorem dX11_needRange_5 : decode cX11_needRange 5 = .ok (.iload_n 0, 1) := by decide +kernel
theorem dX11_needRange_6 : decode cX11_needRange 6 = .ok (.iload_n 2, 1) := by decide +kernel
theorem dX11_needRange_7 : decode cX11_needRange 7 = .ok (.if_icmp .le 11, 3) := by decide +kernel
theorem dX11_needRange_10 : decode cX11_needRange 10 = .ok (.new 379, 3) := by decide +kernel
theorem dX11_needRange_13 : decode cX11_needRange 13 = .ok (.dup, 1) := by decide +kernel
theorem dX11_needRange_14 : decode cX11_needRange 14 = .ok (.invokespecial 381, 3) := by decide +kernel
theorem dX11_needRange_17 : decode cX11_needRange 17 = .ok (.athrow, 1) := by decide +kernel
theorem dX11_needRange_18 : decode cX11_needRange 18 = .ok (.return_, 1) := by decide +kernel
theorem dX11_needBranch_0 : decode cX11_needBranch 0 = .ok (.aload_n 0, 1) := by decide +kernel
theorem dX11_needBranch_1 : decode cX11_needBranch 1 = .ok (.getfield 19, 3) := by decide +kernel
theorem dX11_needBranch_4 : decode cX11_needBranch 4 = .ok (.iload_n 1, 1) := by decide +kernel
theorem dX11_needBranch_5 : decode cX11_needBranch 5 = .ok (.invokevirtual 339, 3) := by decide +kernel
theorem dX11_needBranch_8 : decode cX11_needBranch 8 = .ok (.astore_n 2, 1) := by decide +kernel
theorem dX11_needBranch_9 : decode cX11_needBranch 9 = .ok (.aload_n 2, 1) := by decide +kernel
theorem dX11_needBranch_10 : decode cX11_needBranch 10 = .ok (.ifnonnull 11, 3) := by decide +kernel
theorem dX11_needBranch_13 : decode cX11_needBranch 13 = .ok (.new 168, 3) := by decide +kernel
theorem dX11_needBranch_16 : decode cX11_needBranch 16 = .ok (.dup, 1) := by decide +kernel
theorem dX11_needBranch_17 : decode cX11_needBranch 17 = .ok (.invokespecial 170, 3) := by decide +kernel
theorem dX11_needBranch_20 : decode cX11_needBranch 20 = .ok (.athrow, 1) := by decide +kernel
theorem dX11_needBranch_21 : decode cX11_needBranch 21 = .ok (.aload_n 2, 1) := by decide +kernel
theorem dX11_needBranch_22 : decode cX11_needBranch 22 = .ok (.areturn, 1) := by decide +kernel
theorem dX11_needReader_0 : decode cX11_needReader 0 = .ok (.aload_n 0, 1) := by decide +kernel
theorem dX11_needReader_1 : decode cX11_needReader 1 = .ok (.getfield 19, 3) := by decide +kernel
theorem dX11_needReader_4 : decode cX11_needReader 4 = .ok (.iload_n 1, 1) := by decide +kernel
theorem dX11_needReader_5 : decode cX11_needReader 5 = .ok (.invokevirtual 358, 3) := by decide +kernel
theorem dX11_needReader_8 : decode cX11_needReader 8 = .ok (.astore_n 2, 1) := by decide +kernel
theorem dX11_needReader_9 : decode cX11_needReader 9 = .ok (.aload_n 2, 1) := by decide +kernel
theorem dX11_needReader_10 : decode cX11_needReader 10 = .ok (.ifnonnull 11, 3) := by decide +kernel
theorem dX11_needReader_13 : decode cX11_needReader 13 = .ok (.new 168, 3) := by decide +kernel
theorem dX11_needReader_16 : decode cX11_needReader 16 = .ok (.dup, 1) := by decide +kernel
theorem dX11_needReader_17 : decode cX11_needReader 17 = .ok (.invokespecial 170, 3) := by decide +kernel
theorem dX11_needReader_20 : decode cX11_needReader 20 = .ok (.athrow, 1) := by decide +kernel
theorem dX11_needReader_21 : decode cX11_needReader 21 = .ok (.aload_n 2, 1) := by decide +kernel
theorem dX11_needReader_22 : decode cX11_needReader 22 = .ok (.areturn, 1) := by decide +kernel
theorem dX11_reasonToStay_0 : decode cX11_reasonToStay 0 = .ok (.aload_n 1, 1) := by decide +kernel
theorem dX11_reasonToStay_1 : decode cX11_reasonToStay 1 = .ok (.getfield 289, 3) := by decide +kernel
theorem dX11_reasonToStay_4 : decode cX11_reasonToStay 4 = .ok (.ifCond .ne 6, 3) := by decide +kernel
theorem dX11_reasonToStay_7 : decode cX11_reasonToStay 7 = .ok (.bipush 6, 2) := by decide +kernel
theorem dX11_reasonToStay_9 : decode cX11_reasonToStay 9 = .ok (.ireturn, 1) := by decide +kernel
theorem dX11_reasonToStay_10 : decode cX11_reasonToStay 10 = .ok (.aload_n 0, 1) := by decide +kernel
theorem dX11_reasonToStay_11 : decode cX11_reasonToStay 11 = .ok (.getfield 19, 3) := by decide +kernel
theorem dX11_reasonToStay_14 : decode cX11_reasonToStay 14 = .ok (.aload_n 1, 1) := by decide +kernel
theorem dX11_reasonToStay_15 : decode cX11_reasonToStay 15 = .ok (.invokevirtual 158, 3) := by decide +kernel
theorem dX11_reasonToStay_18 : decode cX11_reasonToStay 18 = .ok (.ifCond .le 8, 3) := by decide +kernel
theorem dX11_reasonToStay_21 : decode cX11_reasonToStay 21 = .ok (.bipush 7, 2) := by decide +kernel
theorem dX11_reasonToStay_23 : decode cX11_reasonToStay 23 = .ok (.goto 4, 3) := by decide +kernel
theorem dX11_reasonToStay_26 : decode cX11_reasonToStay 26 = .ok (.iconst (-1), 1) := by decide +kernel
theorem dX11_reasonToStay_27 : decode cX11_reasonToStay 27 = .ok (.ireturn, 1) := by decide +kernel
theorem dX11_writeReader_0 : decode cX11_writeReader 0 = .ok (.aload_n 0, 1) := by decide +kernel
theorem dX11_writeReader_1 : decode cX11_writeReader 1 = .ok (.getfield 54, 3) := by decide +kernel
theorem dX11_writeReader_4 : decode cX11_writeReader 4 = .ok (.bipush 32, 2) := by decide +kernel
theorem dX11_writeReader_6 : decode cX11_writeReader 6 = .ok (.invokevirtual 355, 3) := by decide +kernel
theorem dX11_writeReader_9 : decode cX11_writeReader 9 = .ok (.pop, 1) := by decide +kernel
theorem dX11_writeReader_10 : decode cX11_writeReader 10 = .ok (.aload_n 0, 1) := by decide +kernel
theorem dX11_writeReader_11 : decode cX11_writeReader 11 = .ok (.getfield 54, 3) := by decide +kernel
theorem dX11_writeReader_14 : decode cX11_writeReader 14 = .ok (.bipush 114, 2) := by decide +kernel
theorem dX11_writeReader_16 : decode cX11_writeReader 16 = .ok (.invokevirtual 355, 3) := by decide +kernel
theorem dX11_writeReader_19 : decode cX11_writeReader 19 = .ok (.pop, 1) := by decide +kernel
theorem dX11_writeReader_20 : decode cX11_writeReader 20 = .ok (.aload_n 0, 1) := by decide +kernel
theorem dX11_writeReader_21 : decode cX11_writeReader 21 = .ok (.getfield 54, 3) := by decide +kernel
theorem dX11_writeReader_24 : decode cX11_writeReader 24 = .ok (.iload_n 1, 1) := by decide +kernel
theorem dX11_writeReader_25 : decode cX11_writeReader 25 = .ok (.invokevirtual 351, 3) := by decide +kernel
theorem dX11_writeReader_28 : decode cX11_writeReader 28 = .ok (.pop, 1) := by decide +kernel
theorem dX11_writeReader_29 : decode cX11_writeReader 29 = .ok (.aload_n 0, 1) := by decide +kernel
theorem dX11_writeReader_30 : decode cX11_writeReader 30 = .ok (.getfield 54, 3) := by decide +kernel
theorem dX11_writeReader_33 : decode cX11_writeReader 33 = .ok (.bipush 61, 2) := by decide +kernel
theorem dX11_writeReader_35 : decode cX11_writeReader 35 = .ok (.invokevirtual 355, 3) := by decide +kernel
theorem dX11_writeReader_38 : decode cX11_writeReader 38 = .ok (.pop, 1) := by decide +kernel
theorem dX11_writeReader_39 : decode cX11_writeReader 39 = .ok (.aload_n 0, 1) := by decide +kernel
theorem dX11_writeReader_40 : decode cX11_writeReader 40 = .ok (.getfield 54, 3) := by decide +kernel
theorem dX11_writeReader_43 : decode cX11_writeReader 43 = .ok (.aload_n 2, 1) := by decide +kernel
theorem dX11_writeReader_44 : decode cX11_writeReader 44 = .ok (.getfield 200, 3) := by decide +kernel
theorem dX11_writeReader_47 : decode cX11_writeReader 47 = .ok (.invokevirtual 351, 3) := by decide +kernel
theorem dX11_writeReader_50 : decode cX11_writeReader 50 = .ok (.pop, 1) := by decide +kernel
theorem dX11_writeReader_51 : decode cX11_writeReader 51 = .ok (.aload_n 2, 1) := by decide +kernel
theorem dX11_writeReader_52 : decode cX11_writeReader 52 = .ok (.getfield 206, 3) := by decide +kernel
theorem dX11_writeReader_55 : decode cX11_writeReader 55 = .ok (.iconst (-1), 1) := by decide +kernel
theorem dX11_writeReader_56 : decode cX11_writeReader 56 = .ok (.if_icmp .eq 25, 3) := by decide +kernel
theorem dX11_writeReader_59 : decode cX11_writeReader 59 = .ok (.aload_n 0, 1) := by decide +kernel
theorem dX11_writeReader_60 : decode cX11_writeReader 60 = .ok (.getfield 54, 3) := by decide +kernel
theorem dX11_writeReader_63 : decode cX11_writeReader 63 = .ok (.bipush 112, 2) := by decide +kernel
theorem dX11_writeReader_65 : decode cX11_writeReader 65 = .ok (.invokevirtual 355, 3) := by decide +kernel
theorem dX11_writeReader_68 : decode cX11_writeReader 68 = .ok (.pop, 1) := by decide +kernel
theorem dX11_writeReader_69 : decode cX11_writeReader 69 = .ok (.aload_n 0, 1) := by decide +kernel
theorem dX11_writeReader_70 : decode cX11_writeReader 70 = .ok (.getfield 54, 3) := by decide +kernel
theorem dX11_writeReader_73 : decode cX11_writeReader 73 = .ok (.aload_n 2, 1) := by decide +kernel
theorem dX11_writeReader_74 : decode cX11_writeReader 74 = .ok (.getfield 206, 3) := by decide +kernel
theorem dX11_writeReader_77 : decode cX11_writeReader 77 = .ok (.invokevirtual 351, 3) := by decide +kernel
theorem dX11_writeReader_80 : decode cX11_writeReader 80 = .ok (.pop, 1) := by decide +kernel
theorem dX11_writeReader_81 : decode cX11_writeReader 81 = .ok (.aload_n 2, 1) := by decide +kernel
theorem dX11_writeReader_82 : decode cX11_writeReader 82 = .ok (.getfield 228, 3) := by decide +kernel
theorem dX11_writeReader_85 : decode cX11_writeReader 85 = .ok (.getfield 274, 3) := by decide +kernel
theorem dX11_writeReader_88 : decode cX11_writeReader 88 = .ok (.ifCond .le 13, 3) := by decide +kernel
theorem dX11_writeReader_91 : decode cX11_writeReader 91 = .ok (.aload_n 0, 1) := by decide +kernel
theorem dX11_writeReader_92 : decode cX11_writeReader 92 = .ok (.getfield 54, 3) := by decide +kernel
theorem dX11_writeReader_95 : decode cX11_writeReader 95 = .ok (.bipush 33, 2) := by decide +kernel
theorem dX11_writeReader_97 : decode cX11_writeReader 97 = .ok (.invokevirtual 355, 3) := by decide +kernel
theorem dX11_writeReader_100 : decode cX11_writeReader 100 = .ok (.pop, 1) := by decide +kernel
theorem dX11_writeReader_101 : decode cX11_writeReader 101 = .ok (.return_, 1) := by decide +kernel
theorem dX11_perform_0 : decode cX11_perform 0 = .ok (.aload_n 0, 1) := by decide +kernel
theorem dX11_perform_1 : decode cX11_perform 1 = .ok (.getfield 47, 3) := by decide +kernel
theorem dX11_perform_4 : decode cX11_perform 4 = .ok (.iload_n 1, 1) := by decide +kernel
theorem dX11_perform_5 : decode cX11_perform 5 = .ok (.invokevirtual 382, 3) := by decide +kernel
theorem dX11_perform_8 : decode cX11_perform 8 = .ok (.astore_n 2, 1) := by decide +kernel
theorem dX11_perform_9 : decode cX11_perform 9 = .ok (.aload_n 2, 1) := by decide +kernel
theorem dX11_perform_10 : decode cX11_perform 10 = .ok (.ifnonnull 5, 3) := by decide +kernel
theorem dX11_perform_13 : decode cX11_perform 13 = .ok (.iconst (-1), 1) := by decide +kernel
theorem dX11_perform_14 : decode cX11_perform 14 = .ok (.ireturn, 1) := by decide +kernel
theorem dX11_perform_15 : decode cX11_perform 15 = .ok (.aload_n 0, 1) := by decide +kernel
theorem dX11_perform_16 : decode cX11_perform 16 = .ok (.getfield 47, 3) := by decide +kernel
theorem dX11_perform_19 : decode cX11_perform 19 = .ok (.iload_n 1, 1) := by decide +kernel
theorem dX11_perform_20 : decode cX11_perform 20 = .ok (.iconst 0, 1) := by decide +kernel
theorem dX11_perform_21 : decode cX11_perform 21 = .ok (.invokevirtual 386, 3) := by decide +kernel
theorem dX11_perform_24 : decode cX11_perform 24 = .ok (.istore_n 3, 1) := by decide +kernel
theorem dX11_perform_25 : decode cX11_perform 25 = .ok (.aload_n 0, 1) := by decide +kernel
theorem dX11_perform_26 : decode cX11_perform 26 = .ok (.getfield 47, 3) := by decide +kernel
theorem dX11_perform_29 : decode cX11_perform 29 = .ok (.iload_n 1, 1) := by decide +kernel
theorem dX11_perform_30 : decode cX11_perform 30 = .ok (.iconst 1, 1) := by decide +kernel
theorem dX11_perform_31 : decode cX11_perform 31 = .ok (.invokevirtual 386, 3) := by decide +kernel
theorem dX11_perform_34 : decode cX11_perform 34 = .ok (.istore 4, 2) := by decide +kernel
theorem dX11_perform_36 : decode cX11_perform 36 = .ok (.aload_n 0, 1) := by decide +kernel
theorem dX11_perform_37 : decode cX11_perform 37 = .ok (.getfield 19, 3) := by decide +kernel
theorem dX11_perform_40 : decode cX11_perform 40 = .ok (.iload_n 3, 1) := by decide +kernel
theorem dX11_perform_41 : decode cX11_perform 41 = .ok (.invokevirtual 339, 3) := by decide +kernel
theorem dX11_perform_44 : decode cX11_perform 44 = .ok (.ifnull 7, 3) := by decide +kernel
theorem dX11_perform_47 : decode cX11_perform 47 = .ok (.iconst 1, 1) := by decide +kernel
theorem dX11_perform_48 : decode cX11_perform 48 = .ok (.goto 4, 3) := by decide +kernel
theorem dX11_perform_51 : decode cX11_perform 51 = .ok (.iconst 0, 1) := by decide +kernel
theorem dX11_perform_52 : decode cX11_perform 52 = .ok (.istore 5, 2) := by decide +kernel
theorem dX11_perform_54 : decode cX11_perform 54 = .ok (.aload_n 0, 1) := by decide +kernel
theorem dX11_perform_55 : decode cX11_perform 55 = .ok (.getfield 19, 3) := by decide +kernel
theorem dX11_perform_58 : decode cX11_perform 58 = .ok (.iload_n 3, 1) := by decide +kernel
theorem dX11_perform_59 : decode cX11_perform 59 = .ok (.invokevirtual 358, 3) := by decide +kernel
theorem dX11_perform_62 : decode cX11_perform 62 = .ok (.ifnull 7, 3) := by decide +kernel
theorem dX11_perform_65 : decode cX11_perform 65 = .ok (.iconst 1, 1) := by decide +kernel
theorem dX11_perform_66 : decode cX11_perform 66 = .ok (.goto 4, 3) := by decide +kernel
theorem dX11_perform_69 : decode cX11_perform 69 = .ok (.iconst 0, 1) := by decide +kernel
theorem dX11_perform_70 : decode cX11_perform 70 = .ok (.istore 6, 2) := by decide +kernel
theorem dX11_perform_72 : decode cX11_perform 72 = .ok (.getstatic 389, 3) := by decide +kernel
theorem dX11_perform_75 : decode cX11_perform 75 = .ok (.aload_n 2, 1) := by decide +kernel
theorem dX11_perform_76 : decode cX11_perform 76 = .ok (.invokevirtual 395, 3) := by decide +kernel
theorem dX11_perform_79 : decode cX11_perform 79 = .ok (.iaload, 1) := by decide +kernel
theorem dX11_perform_80 : decode cX11_perform 80 = .ok (.tableswitch 248 1 9 #[52, 87, 112, 129, 159, 188, 203, 218, 233], 52) := by decide +kernel
theorem dX11_perform_132 : decode cX11_perform 132 = .ok (.iload 5, 2) := by decide +kernel
theorem dX11_perform_134 : decode cX11_perform 134 = .ok (.ifCond .eq 31, 3) := by decide +kernel
theorem dX11_perform_137 : decode cX11_perform 137 = .ok (.aload_n 0, 1) := by decide +kernel
theorem dX11_perform_138 : decode cX11_perform 138 = .ok (.iload_n 3, 1) := by decide +kernel
theorem dX11_perform_139 : decode cX11_perform 139 = .ok (.iload 4, 2) := by decide +kernel
theorem dX11_perform_141 : decode cX11_perform 141 = .ok (.aload_n 0, 1) := by decide +kernel
theorem dX11_perform_142 : decode cX11_perform 142 = .ok (.getfield 47, 3) := by decide +kernel
theorem dX11_perform_145 : decode cX11_perform 145 = .ok (.iload_n 1, 1) := by decide +kernel
theorem dX11_perform_146 : decode cX11_perform 146 = .ok (.iconst 2, 1) := by decide +kernel
theorem dX11_perform_147 : decode cX11_perform 147 = .ok (.invokevirtual 386, 3) := by decide +kernel
theorem dX11_perform_150 : decode cX11_perform 150 = .ok (.aload_n 0, 1) := by decide +kernel
theorem dX11_perform_151 : decode cX11_perform 151 = .ok (.getfield 47, 3) := by decide +kernel
theorem dX11_perform_154 : decode cX11_perform 154 = .ok (.iload_n 1, 1) := by decide +kernel
theorem dX11_perform_155 : decode cX11_perform 155 = .ok (.iconst 3, 1) := by decide +kernel
theorem dX11_perform_156 : decode cX11_perform 156 = .ok (.invokevirtual 386, 3) := by decide +kernel
theorem dX11_perform_159 : decode cX11_perform 159 = .ok (.invokevirtual 400, 3) := by decide +kernel
theorem dX11_perform_162 : decode cX11_perform 162 = .ok (.goto 4, 3) := by decide +kernel
theorem dX11_perform_165 : decode cX11_perform 165 = .ok (.iconst (-1), 1) := by decide +kernel
theorem dX11_perform_166 : decode cX11_perform 166 = .ok (.ireturn, 1) := by decide +kernel
theorem dX11_perform_167 : decode cX11_perform 167 = .ok (.iload 5, 2) := by decide +kernel
theorem dX11_perform_169 : decode cX11_perform 169 = .ok (.ifCond .eq 21, 3) := by decide +kernel
theorem dX11_perform_172 : decode cX11_perform 172 = .ok (.aload_n 0, 1) := by decide +kernel
theorem dX11_perform_173 : decode cX11_perform 173 = .ok (.iload_n 3, 1) := by decide +kernel
theorem dX11_perform_174 : decode cX11_perform 174 = .ok (.iload 4, 2) := by decide +kernel
theorem dX11_perform_176 : decode cX11_perform 176 = .ok (.ifCond .eq 7, 3) := by decide +kernel
theorem dX11_perform_179 : decode cX11_perform 179 = .ok (.iconst 1, 1) := by decide +kernel
theorem dX11_perform_180 : decode cX11_perform 180 = .ok (.goto 4, 3) := by decide +kernel
theorem dX11_perform_183 : decode cX11_perform 183 = .ok (.iconst 0, 1) := by decide +kernel
theorem dX11_perform_184 : decode cX11_perform 184 = .ok (.invokevirtual 403, 3) := by decide +kernel
theorem dX11_perform_187 : decode cX11_perform 187 = .ok (.goto 4, 3) := by decide +kernel
theorem dX11_perform_190 : decode cX11_perform 190 = .ok (.iconst (-1), 1) := by decide +kernel
theorem dX11_perform_191 : decode cX11_perform 191 = .ok (.ireturn, 1) := by decide +kernel
theorem dX11_perform_192 : decode cX11_perform 192 = .ok (.iload 6, 2) := by decide +kernel
theorem dX11_perform_194 : decode cX11_perform 194 = .ok (.ifCond .eq 13, 3) := by decide +kernel
theorem dX11_perform_197 : decode cX11_perform 197 = .ok (.aload_n 0, 1) := by decide +kernel
theorem dX11_perform_198 : decode cX11_perform 198 = .ok (.iload_n 3, 1) := by decide +kernel
theorem dX11_perform_199 : decode cX11_perform 199 = .ok (.iload 4, 2) := by decide +kernel
theorem dX11_perform_201 : decode cX11_perform 201 = .ok (.invokevirtual 407, 3) := by decide +kernel
theorem dX11_perform_204 : decode cX11_perform 204 = .ok (.goto 4, 3) := by decide +kernel
theorem dX11_perform_207 : decode cX11_perform 207 = .ok (.iconst (-1), 1) := by decide +kernel
theorem dX11_perform_208 : decode cX11_perform 208 = .ok (.ireturn, 1) := by decide +kernel
theorem dX11_perform_209 : decode cX11_perform 209 = .ok (.iload 6, 2) := by decide +kernel
theorem dX11_perform_211 : decode cX11_perform 211 = .ok (.ifCond .eq 26, 3) := by decide +kernel
theorem dX11_perform_214 : decode cX11_perform 214 = .ok (.iload 4, 2) := by decide +kernel
theorem dX11_perform_216 : decode cX11_perform 216 = .ok (.aload_n 0, 1) := by decide +kernel
theorem dX11_perform_217 : decode cX11_perform 217 = .ok (.getfield 10, 3) := by decide +kernel
theorem dX11_perform_220 : decode cX11_perform 220 = .ok (.iconst 5, 1) := by decide +kernel
theorem dX11_perform_221 : decode cX11_perform 221 = .ok (.invokevirtual 101, 3) := by decide +kernel
theorem dX11_perform_224 : decode cX11_perform 224 = .ok (.if_icmp .gt 13, 3) := by decide +kernel
theorem dX11_perform_227 : decode cX11_perform 227 = .ok (.aload_n 0, 1) := by decide +kernel
theorem dX11_perform_228 : decode cX11_perform 228 = .ok (.iload_n 3, 1) := by decide +kernel
theorem dX11_perform_229 : decode cX11_perform 229 = .ok (.iload 4, 2) := by decide +kernel
theorem dX11_perform_231 : decode cX11_perform 231 = .ok (.invokevirtual 410, 3) := by decide +kernel
theorem dX11_perform_234 : decode cX11_perform 234 = .ok (.goto 4, 3) := by decide +kernel
theorem dX11_perform_237 : decode cX11_perform 237 = .ok (.iconst (-1), 1) := by decide +kernel
theorem dX11_perform_238 : decode cX11_perform 238 = .ok (.ireturn, 1) := by decide +kernel
theorem dX11_perform_239 : decode cX11_perform 239 = .ok (.iload 6, 2) := by decide +kernel
theorem dX11_perform_241 : decode cX11_perform 241 = .ok (.ifCond .eq 25, 3) := by decide +kernel
theorem dX11_perform_244 : decode cX11_perform 244 = .ok (.aload_n 0, 1) := by decide +kernel
theorem dX11_perform_245 : decode cX11_perform 245 = .ok (.getfield 19, 3) := by decide +kernel
theorem dX11_perform_248 : decode cX11_perform 248 = .ok (.iload 4, 2) := by decide +kernel
theorem dX11_perform_250 : decode cX11_perform 250 = .ok (.invokevirtual 339, 3) := by decide +kernel
theorem dX11_perform_253 : decode cX11_perform 253 = .ok (.ifnull 13, 3) := by decide +kernel
theorem dX11_perform_256 : decode cX11_perform 256 = .ok (.aload_n 0, 1) := by decide +kernel
theorem dX11_perform_257 : decode cX11_perform 257 = .ok (.iload_n 3, 1) := by decide +kernel
theorem dX11_perform_258 : decode cX11_perform 258 = .ok (.iload 4, 2) := by decide +kernel
theorem dX11_perform_260 : decode cX11_perform 260 = .ok (.invokevirtual 412, 3) := by decide +kernel
theorem dX11_perform_263 : decode cX11_perform 263 = .ok (.goto 4, 3) := by decide +kernel
theorem dX11_perform_266 : decode cX11_perform 266 = .ok (.iconst (-1), 1) := by decide +kernel
theorem dX11_perform_267 : decode cX11_perform 267 = .ok (.ireturn, 1) := by decide +kernel
theorem dX11_perform_268 : decode cX11_perform 268 = .ok (.iload 6, 2) := by decide +kernel
theorem dX11_perform_270 : decode cX11_perform 270 = .ok (.ifCond .eq 11, 3) := by decide +kernel
theorem dX11_perform_273 : decode cX11_perform 273 = .ok (.aload_n 0, 1) := by decide +kernel
theorem dX11_perform_274 : decode cX11_perform 274 = .ok (.iload_n 3, 1) := by decide +kernel
theorem dX11_perform_275 : decode cX11_perform 275 = .ok (.invokevirtual 415, 3) := by decide +kernel
theorem dX11_perform_278 : decode cX11_perform 278 = .ok (.goto 4, 3) := by decide +kernel
theorem dX11_perform_281 : decode cX11_perform 281 = .ok (.iconst (-1), 1) := by decide +kernel
theorem dX11_perform_282 : decode cX11_perform 282 = .ok (.ireturn, 1) := by decide +kernel
theorem dX11_perform_283 : decode cX11_perform 283 = .ok (.iload 5, 2) := by decide +kernel
theorem dX11_perform_285 : decode cX11_perform 285 = .ok (.ifCond .eq 11, 3) := by decide +kernel
theorem dX11_perform_288 : decode cX11_perform 288 = .ok (.aload_n 0, 1) := by decide +kernel
theorem dX11_perform_289 : decode cX11_perform 289 = .ok (.iload_n 3, 1) := by decide +kernel
theorem dX11_perform_290 : decode cX11_perform 290 = .ok (.invokevirtual 418, 3) := by decide +kernel
theorem dX11_perform_293 : decode cX11_perform 293 = .ok (.goto 4, 3) := by decide +kernel
theorem dX11_perform_296 : decode cX11_perform 296 = .ok (.iconst (-1), 1) := by decide +kernel
theorem dX11_perform_297 : decode cX11_perform 297 = .ok (.ireturn, 1) := by decide +kernel
theorem dX11_perform_298 : decode cX11_perform 298 = .ok (.iload 5, 2) := by decide +kernel
theorem dX11_perform_300 : decode cX11_perform 300 = .ok (.ifCond .eq 11, 3) := by decide +kernel
theorem dX11_perform_303 : decode cX11_perform 303 = .ok (.aload_n 0, 1) := by decide +kernel
theorem dX11_perform_304 : decode cX11_perform 304 = .ok (.iload_n 3, 1) := by decide +kernel
theorem dX11_perform_305 : decode cX11_perform 305 = .ok (.invokevirtual 420, 3) := by decide +kernel
theorem dX11_perform_308 : decode cX11_perform 308 = .ok (.goto 4, 3) := by decide +kernel
theorem dX11_perform_311 : decode cX11_perform 311 = .ok (.iconst (-1), 1) := by decide +kernel
theorem dX11_perform_312 : decode cX11_perform 312 = .ok (.ireturn, 1) := by decide +kernel
theorem dX11_perform_313 : decode cX11_perform 313 = .ok (.iload 5, 2) := by decide +kernel
theorem dX11_perform_315 : decode cX11_perform 315 = .ok (.ifCond .eq 11, 3) := by decide +kernel
theorem dX11_perform_318 : decode cX11_perform 318 = .ok (.aload_n 0, 1) := by decide +kernel
theorem dX11_perform_319 : decode cX11_perform 319 = .ok (.iload_n 3, 1) := by decide +kernel
theorem dX11_perform_320 : decode cX11_perform 320 = .ok (.invokevirtual 423, 3) := by decide +kernel
theorem dX11_perform_323 : decode cX11_perform 323 = .ok (.goto 4, 3) := by decide +kernel
theorem dX11_perform_326 : decode cX11_perform 326 = .ok (.iconst (-1), 1) := by decide +kernel
theorem dX11_perform_327 : decode cX11_perform 327 = .ok (.ireturn, 1) := by decide +kernel
theorem dX11_perform_328 : decode cX11_perform 328 = .ok (.aload_n 0, 1) := by decide +kernel
theorem dX11_perform_329 : decode cX11_perform 329 = .ok (.iload_n 3, 1) := by decide +kernel
theorem dX11_perform_330 : decode cX11_perform 330 = .ok (.invokevirtual 426, 3) := by decide +kernel
theorem dX11_perform_333 : decode cX11_perform 333 = .ok (.ireturn, 1) := by decide +kernel
