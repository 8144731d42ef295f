theorem dX_init_0 : decode prog_1_method_1_code 0 = .ok (.aload_n 0, 1) := by decide +kernel
theorem dX_init_1 : decode prog_1_method_1_code 1 = .ok (.invokespecial 1, 3) := by decide +kernel
theorem dX_init_4 : decode prog_1_method_1_code 4 = .ok (.aload_n 0, 1) := by decide +kernel
theorem dX_init_5 : decode prog_1_method_1_code 5 = .ok (.iconst 3, 1) := by decide +kernel
theorem dX_init_6 : decode prog_1_method_1_code 6 = .ok (.anewarray 9, 3) := by decide +kernel
theorem dX_init_9 : decode prog_1_method_1_code 9 = .ok (.putfield 11, 3) := by decide +kernel
theorem dX_init_12 : decode prog_1_method_1_code 12 = .ok (.iconst 0, 1) := by decide +kernel
theorem dX_init_13 : decode prog_1_method_1_code 13 = .ok (.istore_n 1, 1) := by decide +kernel
theorem dX_init_14 : decode prog_1_method_1_code 14 = .ok (.iload_n 1, 1) := by decide +kernel
theorem dX_init_15 : decode prog_1_method_1_code 15 = .ok (.iconst 3, 1) := by decide +kernel
theorem dX_init_16 : decode prog_1_method_1_code 16 = .ok (.if_icmp .ge 22, 3) := by decide +kernel
theorem dX_init_19 : decode prog_1_method_1_code 19 = .ok (.aload_n 0, 1) := by decide +kernel
theorem dX_init_20 : decode prog_1_method_1_code 20 = .ok (.getfield 11, 3) := by decide +kernel
theorem dX_init_23 : decode prog_1_method_1_code 23 = .ok (.iload_n 1, 1) := by decide +kernel
theorem dX_init_24 : decode prog_1_method_1_code 24 = .ok (.new 9, 3) := by decide +kernel
theorem dX_init_27 : decode prog_1_method_1_code 27 = .ok (.dup, 1) := by decide +kernel
theorem dX_init_28 : decode prog_1_method_1_code 28 = .ok (.invokespecial 15, 3) := by decide +kernel
theorem dX_init_31 : decode prog_1_method_1_code 31 = .ok (.aastore, 1) := by decide +kernel
theorem dX_init_32 : decode prog_1_method_1_code 32 = .ok (.iinc 1 1, 3) := by decide +kernel
theorem dX_init_35 : decode prog_1_method_1_code 35 = .ok (.goto (-21), 3) := by decide +kernel
theorem dX_init_38 : decode prog_1_method_1_code 38 = .ok (.aload_n 0, 1) := by decide +kernel
theorem dX_init_39 : decode prog_1_method_1_code 39 = .ok (.iconst 4, 1) := by decide +kernel
theorem dX_init_40 : decode prog_1_method_1_code 40 = .ok (.anewarray 16, 3) := by decide +kernel
theorem dX_init_43 : decode prog_1_method_1_code 43 = .ok (.putfield 18, 3) := by decide +kernel
theorem dX_init_46 : decode prog_1_method_1_code 46 = .ok (.iconst 0, 1) := by decide +kernel
theorem dX_init_47 : decode prog_1_method_1_code 47 = .ok (.istore_n 1, 1) := by decide +kernel
theorem dX_init_48 : decode prog_1_method_1_code 48 = .ok (.iload_n 1, 1) := by decide +kernel
theorem dX_init_49 : decode prog_1_method_1_code 49 = .ok (.iconst 4, 1) := by decide +kernel
theorem dX_init_50 : decode prog_1_method_1_code 50 = .ok (.if_icmp .ge 22, 3) := by decide +kernel
theorem dX_init_53 : decode prog_1_method_1_code 53 = .ok (.aload_n 0, 1) := by decide +kernel
theorem dX_init_54 : decode prog_1_method_1_code 54 = .ok (.getfield 18, 3) := by decide +kernel
theorem dX_init_57 : decode prog_1_method_1_code 57 = .ok (.iload_n 1, 1) := by decide +kernel
theorem dX_init_58 : decode prog_1_method_1_code 58 = .ok (.new 16, 3) := by decide +kernel
theorem dX_init_61 : decode prog_1_method_1_code 61 = .ok (.dup, 1) := by decide +kernel
theorem dX_init_62 : decode prog_1_method_1_code 62 = .ok (.invokespecial 22, 3) := by decide +kernel
theorem dX_init_65 : decode prog_1_method_1_code 65 = .ok (.aastore, 1) := by decide +kernel
theorem dX_init_66 : decode prog_1_method_1_code 66 = .ok (.iinc 1 1, 3) := by decide +kernel
theorem dX_init_69 : decode prog_1_method_1_code 69 = .ok (.goto (-21), 3) := by decide +kernel
theorem dX_init_72 : decode prog_1_method_1_code 72 = .ok (.aload_n 0, 1) := by decide +kernel
theorem dX_init_73 : decode prog_1_method_1_code 73 = .ok (.bipush 24, 2) := by decide +kernel
theorem dX_init_75 : decode prog_1_method_1_code 75 = .ok (.anewarray 23, 3) := by decide +kernel
theorem dX_init_78 : decode prog_1_method_1_code 78 = .ok (.putfield 25, 3) := by decide +kernel
theorem dX_init_81 : decode prog_1_method_1_code 81 = .ok (.iconst 0, 1) := by decide +kernel
theorem dX_init_82 : decode prog_1_method_1_code 82 = .ok (.istore_n 1, 1) := by decide +kernel
theorem dX_init_83 : decode prog_1_method_1_code 83 = .ok (.iload_n 1, 1) := by decide +kernel
theorem dX_init_84 : decode prog_1_method_1_code 84 = .ok (.bipush 24, 2) := by decide +kernel
theorem dX_init_86 : decode prog_1_method_1_code 86 = .ok (.if_icmp .ge 22, 3) := by decide +kernel
theorem dX_init_89 : decode prog_1_method_1_code 89 = .ok (.aload_n 0, 1) := by decide +kernel
theorem dX_init_90 : decode prog_1_method_1_code 90 = .ok (.getfield 25, 3) := by decide +kernel
theorem dX_init_93 : decode prog_1_method_1_code 93 = .ok (.iload_n 1, 1) := by decide +kernel
theorem dX_init_94 : decode prog_1_method_1_code 94 = .ok (.new 23, 3) := by decide +kernel
theorem dX_init_97 : decode prog_1_method_1_code 97 = .ok (.dup, 1) := by decide +kernel
theorem dX_init_98 : decode prog_1_method_1_code 98 = .ok (.invokespecial 29, 3) := by decide +kernel
theorem dX_init_101 : decode prog_1_method_1_code 101 = .ok (.aastore, 1) := by decide +kernel
theorem dX_init_102 : decode prog_1_method_1_code 102 = .ok (.iinc 1 1, 3) := by decide +kernel
theorem dX_init_105 : decode prog_1_method_1_code 105 = .ok (.goto (-22), 3) := by decide +kernel
theorem dX_init_108 : decode prog_1_method_1_code 108 = .ok (.aload_n 0, 1) := by decide +kernel
theorem dX_init_109 : decode prog_1_method_1_code 109 = .ok (.sipush 640, 3) := by decide +kernel
theorem dX_init_112 : decode prog_1_method_1_code 112 = .ok (.newarray .byte, 2) := by decide +kernel
theorem dX_init_114 : decode prog_1_method_1_code 114 = .ok (.putfield 30, 3) := by decide +kernel
theorem dX_init_117 : decode prog_1_method_1_code 117 = .ok (.aload_n 0, 1) := by decide +kernel
theorem dX_init_118 : decode prog_1_method_1_code 118 = .ok (.bipush 32, 2) := by decide +kernel
theorem dX_init_120 : decode prog_1_method_1_code 120 = .ok (.newarray .int, 2) := by decide +kernel
theorem dX_init_122 : decode prog_1_method_1_code 122 = .ok (.putfield 34, 3) := by decide +kernel
theorem dX_init_125 : decode prog_1_method_1_code 125 = .ok (.aload_n 0, 1) := by decide +kernel
theorem dX_init_126 : decode prog_1_method_1_code 126 = .ok (.bipush 8, 2) := by decide +kernel
theorem dX_init_128 : decode prog_1_method_1_code 128 = .ok (.newarray .int, 2) := by decide +kernel
theorem dX_init_130 : decode prog_1_method_1_code 130 = .ok (.putfield 38, 3) := by decide +kernel
theorem dX_init_133 : decode prog_1_method_1_code 133 = .ok (.aload_n 0, 1) := by decide +kernel
theorem dX_init_134 : decode prog_1_method_1_code 134 = .ok (.lconst 0, 1) := by decide +kernel
theorem dX_init_135 : decode prog_1_method_1_code 135 = .ok (.putfield 41, 3) := by decide +kernel
theorem dX_init_138 : decode prog_1_method_1_code 138 = .ok (.return_, 1) := by decide +kernel
theorem dX_request_0 : decode prog_1_method_2_code 0 = .ok (.iload_n 1, 1) := by decide +kernel
theorem dX_request_1 : decode prog_1_method_2_code 1 = .ok (.iconst 3, 1) := by decide +kernel
theorem dX_request_2 : decode prog_1_method_2_code 2 = .ok (.invokestatic 45, 3) := by decide +kernel
theorem dX_request_5 : decode prog_1_method_2_code 5 = .ok (.ifCond .eq 41, 3) := by decide +kernel
theorem dX_request_8 : decode prog_1_method_2_code 8 = .ok (.iload_n 2, 1) := by decide +kernel
theorem dX_request_9 : decode prog_1_method_2_code 9 = .ok (.bipush 8, 2) := by decide +kernel
theorem dX_request_11 : decode prog_1_method_2_code 11 = .ok (.invokestatic 45, 3) := by decide +kernel
theorem dX_request_14 : decode prog_1_method_2_code 14 = .ok (.ifCond .eq 32, 3) := by decide +kernel
theorem dX_request_17 : decode prog_1_method_2_code 17 = .ok (.iload_n 3, 1) := by decide +kernel
theorem dX_request_18 : decode prog_1_method_2_code 18 = .ok (.iconst 3, 1) := by decide +kernel
theorem dX_request_19 : decode prog_1_method_2_code 19 = .ok (.invokestatic 45, 3) := by decide +kernel
theorem dX_request_22 : decode prog_1_method_2_code 22 = .ok (.ifCond .eq 24, 3) := by decide +kernel
theorem dX_request_25 : decode prog_1_method_2_code 25 = .ok (.iload 5, 2) := by decide +kernel
theorem dX_request_27 : decode prog_1_method_2_code 27 = .ok (.iload 4, 2) := by decide +kernel
theorem dX_request_29 : decode prog_1_method_2_code 29 = .ok (.invokestatic 49, 3) := by decide +kernel
theorem dX_request_32 : decode prog_1_method_2_code 32 = .ok (.ifCond .eq 14, 3) := by decide +kernel
theorem dX_request_35 : decode prog_1_method_2_code 35 = .ok (.iload 8, 2) := by decide +kernel
theorem dX_request_37 : decode prog_1_method_2_code 37 = .ok (.sipush 256, 3) := by decide +kernel
theorem dX_request_40 : decode prog_1_method_2_code 40 = .ok (.invokestatic 45, 3) := by decide +kernel
theorem dX_request_43 : decode prog_1_method_2_code 43 = .ok (.ifCond .ne 11, 3) := by decide +kernel
theorem dX_request_46 : decode prog_1_method_2_code 46 = .ok (.new 52, 3) := by decide +kernel
theorem dX_request_49 : decode prog_1_method_2_code 49 = .ok (.dup, 1) := by decide +kernel
theorem dX_request_50 : decode prog_1_method_2_code 50 = .ok (.invokespecial 54, 3) := by decide +kernel
theorem dX_request_53 : decode prog_1_method_2_code 53 = .ok (.athrow, 1) := by decide +kernel
theorem dX_request_54 : decode prog_1_method_2_code 54 = .ok (.aload_n 0, 1) := by decide +kernel
theorem dX_request_55 : decode prog_1_method_2_code 55 = .ok (.getfield 11, 3) := by decide +kernel
theorem dX_request_58 : decode prog_1_method_2_code 58 = .ok (.iload_n 1, 1) := by decide +kernel
theorem dX_request_59 : decode prog_1_method_2_code 59 = .ok (.aaload, 1) := by decide +kernel
theorem dX_request_60 : decode prog_1_method_2_code 60 = .ok (.astore 9, 2) := by decide +kernel
theorem dX_request_62 : decode prog_1_method_2_code 62 = .ok (.aload 9, 2) := by decide +kernel
theorem dX_request_64 : decode prog_1_method_2_code 64 = .ok (.iload_n 2, 1) := by decide +kernel
theorem dX_request_65 : decode prog_1_method_2_code 65 = .ok (.invokevirtual 55, 3) := by decide +kernel
theorem dX_request_68 : decode prog_1_method_2_code 68 = .ok (.ifCond .ne 14, 3) := by decide +kernel
theorem dX_request_71 : decode prog_1_method_2_code 71 = .ok (.aload 9, 2) := by decide +kernel
theorem dX_request_73 : decode prog_1_method_2_code 73 = .ok (.getfield 59, 3) := by decide +kernel
theorem dX_request_76 : decode prog_1_method_2_code 76 = .ok (.invokevirtual 63, 3) := by decide +kernel
theorem dX_request_79 : decode prog_1_method_2_code 79 = .ok (.ifCond .eq 5, 3) := by decide +kernel
theorem dX_request_82 : decode prog_1_method_2_code 82 = .ok (.iconst (-1), 1) := by decide +kernel
theorem dX_request_83 : decode prog_1_method_2_code 83 = .ok (.ireturn, 1) := by decide +kernel
theorem dX_request_84 : decode prog_1_method_2_code 84 = .ok (.iload_n 1, 1) := by decide +kernel
theorem dX_request_85 : decode prog_1_method_2_code 85 = .ok (.iconst 3, 1) := by decide +kernel
theorem dX_request_86 : decode prog_1_method_2_code 86 = .ok (.ishl, 1) := by decide +kernel
theorem dX_request_87 : decode prog_1_method_2_code 87 = .ok (.iload_n 2, 1) := by decide +kernel
theorem dX_request_88 : decode prog_1_method_2_code 88 = .ok (.iadd, 1) := by decide +kernel
theorem dX_request_89 : decode prog_1_method_2_code 89 = .ok (.istore 10, 2) := by decide +kernel
theorem dX_request_91 : decode prog_1_method_2_code 91 = .ok (.aload_n 0, 1) := by decide +kernel
theorem dX_request_92 : decode prog_1_method_2_code 92 = .ok (.getfield 25, 3) := by decide +kernel
theorem dX_request_95 : decode prog_1_method_2_code 95 = .ok (.iload 10, 2) := by decide +kernel
theorem dX_request_97 : decode prog_1_method_2_code 97 = .ok (.aaload, 1) := by decide +kernel
theorem dX_request_98 : decode prog_1_method_2_code 98 = .ok (.iload_n 3, 1) := by decide +kernel
theorem dX_request_99 : decode prog_1_method_2_code 99 = .ok (.iload 4, 2) := by decide +kernel
theorem dX_request_101 : decode prog_1_method_2_code 101 = .ok (.iload 5, 2) := by decide +kernel
theorem dX_request_103 : decode prog_1_method_2_code 103 = .ok (.lload 6, 2) := by decide +kernel
theorem dX_request_105 : decode prog_1_method_2_code 105 = .ok (.iload 8, 2) := by decide +kernel
theorem dX_request_107 : decode prog_1_method_2_code 107 = .ok (.invokevirtual 69, 3) := by decide +kernel
theorem dX_request_110 : decode prog_1_method_2_code 110 = .ok (.aload 9, 2) := by decide +kernel
theorem dX_request_112 : decode prog_1_method_2_code 112 = .ok (.getfield 59, 3) := by decide +kernel
theorem dX_request_115 : decode prog_1_method_2_code 115 = .ok (.iload 10, 2) := by decide +kernel
theorem dX_request_117 : decode prog_1_method_2_code 117 = .ok (.invokevirtual 73, 3) := by decide +kernel
theorem dX_request_120 : decode prog_1_method_2_code 120 = .ok (.aload 9, 2) := by decide +kernel
theorem dX_request_122 : decode prog_1_method_2_code 122 = .ok (.dup, 1) := by decide +kernel
theorem dX_request_123 : decode prog_1_method_2_code 123 = .ok (.getfield 77, 3) := by decide +kernel
theorem dX_request_126 : decode prog_1_method_2_code 126 = .ok (.iconst 1, 1) := by decide +kernel
theorem dX_request_127 : decode prog_1_method_2_code 127 = .ok (.iload_n 2, 1) := by decide +kernel
theorem dX_request_128 : decode prog_1_method_2_code 128 = .ok (.ishl, 1) := by decide +kernel
theorem dX_request_129 : decode prog_1_method_2_code 129 = .ok (.ior, 1) := by decide +kernel
theorem dX_request_130 : decode prog_1_method_2_code 130 = .ok (.putfield 77, 3) := by decide +kernel
theorem dX_request_133 : decode prog_1_method_2_code 133 = .ok (.aload_n 0, 1) := by decide +kernel
theorem dX_request_134 : decode prog_1_method_2_code 134 = .ok (.getfield 38, 3) := by decide +kernel
theorem dX_request_137 : decode prog_1_method_2_code 137 = .ok (.iconst 1, 1) := by decide +kernel
theorem dX_request_138 : decode prog_1_method_2_code 138 = .ok (.dup2, 1) := by decide +kernel
theorem dX_request_139 : decode prog_1_method_2_code 139 = .ok (.iaload, 1) := by decide +kernel
theorem dX_request_140 : decode prog_1_method_2_code 140 = .ok (.iconst 1, 1) := by decide +kernel
theorem dX_request_141 : decode prog_1_method_2_code 141 = .ok (.iadd, 1) := by decide +kernel
theorem dX_request_142 : decode prog_1_method_2_code 142 = .ok (.iastore, 1) := by decide +kernel
theorem dX_request_143 : decode prog_1_method_2_code 143 = .ok (.aload 9, 2) := by decide +kernel
theorem dX_request_145 : decode prog_1_method_2_code 145 = .ok (.getfield 59, 3) := by decide +kernel
theorem dX_request_148 : decode prog_1_method_2_code 148 = .ok (.getfield 81, 3) := by decide +kernel
theorem dX_request_151 : decode prog_1_method_2_code 151 = .ok (.ireturn, 1) := by decide +kernel
theorem dX_accept_0 : decode prog_1_method_3_code 0 = .ok (.iload_n 1, 1) := by decide +kernel
theorem dX_accept_1 : decode prog_1_method_3_code 1 = .ok (.iconst 3, 1) := by decide +kernel
theorem dX_accept_2 : decode prog_1_method_3_code 2 = .ok (.invokestatic 45, 3) := by decide +kernel
theorem dX_accept_5 : decode prog_1_method_3_code 5 = .ok (.ifCond .ne 11, 3) := by decide +kernel
theorem dX_accept_8 : decode prog_1_method_3_code 8 = .ok (.new 52, 3) := by decide +kernel
theorem dX_accept_11 : decode prog_1_method_3_code 11 = .ok (.dup, 1) := by decide +kernel
theorem dX_accept_12 : decode prog_1_method_3_code 12 = .ok (.invokespecial 54, 3) := by decide +kernel
theorem dX_accept_15 : decode prog_1_method_3_code 15 = .ok (.athrow, 1) := by decide +kernel
theorem dX_accept_16 : decode prog_1_method_3_code 16 = .ok (.aload_n 0, 1) := by decide +kernel
theorem dX_accept_17 : decode prog_1_method_3_code 17 = .ok (.getfield 11, 3) := by decide +kernel
theorem dX_accept_20 : decode prog_1_method_3_code 20 = .ok (.iload_n 1, 1) := by decide +kernel
theorem dX_accept_21 : decode prog_1_method_3_code 21 = .ok (.aaload, 1) := by decide +kernel
theorem dX_accept_22 : decode prog_1_method_3_code 22 = .ok (.getfield 84, 3) := by decide +kernel
theorem dX_accept_25 : decode prog_1_method_3_code 25 = .ok (.istore_n 3, 1) := by decide +kernel
theorem dX_accept_26 : decode prog_1_method_3_code 26 = .ok (.aload_n 0, 1) := by decide +kernel
theorem dX_accept_27 : decode prog_1_method_3_code 27 = .ok (.getfield 11, 3) := by decide +kernel
theorem dX_accept_30 : decode prog_1_method_3_code 30 = .ok (.iload_n 1, 1) := by decide +kernel
theorem dX_accept_31 : decode prog_1_method_3_code 31 = .ok (.aaload, 1) := by decide +kernel
theorem dX_accept_32 : decode prog_1_method_3_code 32 = .ok (.iload_n 2, 1) := by decide +kernel
theorem dX_accept_33 : decode prog_1_method_3_code 33 = .ok (.putfield 84, 3) := by decide +kernel
theorem dX_accept_36 : decode prog_1_method_3_code 36 = .ok (.iload_n 3, 1) := by decide +kernel
theorem dX_accept_37 : decode prog_1_method_3_code 37 = .ok (.ireturn, 1) := by decide +kernel
theorem dX_tick_0 : decode prog_1_method_4_code 0 = .ok (.iload_n 1, 1) := by decide +kernel
theorem dX_tick_1 : decode prog_1_method_4_code 1 = .ok (.ifCond .lt 10, 3) := by decide +kernel
theorem dX_tick_4 : decode prog_1_method_4_code 4 = .ok (.iload_n 1, 1) := by decide +kernel
theorem dX_tick_5 : decode prog_1_method_4_code 5 = .ok (.sipush 10000, 3) := by decide +kernel
theorem dX_tick_8 : decode prog_1_method_4_code 8 = .ok (.if_icmp .le 11, 3) := by decide +kernel
theorem dX_tick_11 : decode prog_1_method_4_code 11 = .ok (.new 52, 3) := by decide +kernel
theorem dX_tick_14 : decode prog_1_method_4_code 14 = .ok (.dup, 1) := by decide +kernel
theorem dX_tick_15 : decode prog_1_method_4_code 15 = .ok (.invokespecial 54, 3) := by decide +kernel
theorem dX_tick_18 : decode prog_1_method_4_code 18 = .ok (.athrow, 1) := by decide +kernel
theorem dX_tick_19 : decode prog_1_method_4_code 19 = .ok (.iconst 0, 1) := by decide +kernel
theorem dX_tick_20 : decode prog_1_method_4_code 20 = .ok (.istore_n 2, 1) := by decide +kernel
theorem dX_tick_21 : decode prog_1_method_4_code 21 = .ok (.iload_n 2, 1) := by decide +kernel
theorem dX_tick_22 : decode prog_1_method_4_code 22 = .ok (.iload_n 1, 1) := by decide +kernel
theorem dX_tick_23 : decode prog_1_method_4_code 23 = .ok (.if_icmp .ge 37, 3) := by decide +kernel
theorem dX_tick_26 : decode prog_1_method_4_code 26 = .ok (.aload_n 0, 1) := by decide +kernel
theorem dX_tick_27 : decode prog_1_method_4_code 27 = .ok (.invokevirtual 88, 3) := by decide +kernel
theorem dX_tick_30 : decode prog_1_method_4_code 30 = .ok (.istore_n 3, 1) := by decide +kernel
theorem dX_tick_31 : decode prog_1_method_4_code 31 = .ok (.iload_n 3, 1) := by decide +kernel
theorem dX_tick_32 : decode prog_1_method_4_code 32 = .ok (.ifCond .ne 22, 3) := by decide +kernel
theorem dX_tick_35 : decode prog_1_method_4_code 35 = .ok (.aload_n 0, 1) := by decide +kernel
theorem dX_tick_36 : decode prog_1_method_4_code 36 = .ok (.invokevirtual 91, 3) := by decide +kernel
theorem dX_tick_39 : decode prog_1_method_4_code 39 = .ok (.ifCond .ne 15, 3) := by decide +kernel
theorem dX_tick_42 : decode prog_1_method_4_code 42 = .ok (.aload_n 0, 1) := by decide +kernel
theorem dX_tick_43 : decode prog_1_method_4_code 43 = .ok (.iload_n 1, 1) := by decide +kernel
theorem dX_tick_44 : decode prog_1_method_4_code 44 = .ok (.iconst 1, 1) := by decide +kernel
theorem dX_tick_45 : decode prog_1_method_4_code 45 = .ok (.isub, 1) := by decide +kernel
theorem dX_tick_46 : decode prog_1_method_4_code 46 = .ok (.iload_n 2, 1) := by decide +kernel
theorem dX_tick_47 : decode prog_1_method_4_code 47 = .ok (.isub, 1) := by decide +kernel
theorem dX_tick_48 : decode prog_1_method_4_code 48 = .ok (.invokevirtual 94, 3) := by decide +kernel
theorem dX_tick_51 : decode prog_1_method_4_code 51 = .ok (.goto 9, 3) := by decide +kernel
theorem dX_tick_54 : decode prog_1_method_4_code 54 = .ok (.iinc 2 1, 3) := by decide +kernel
theorem dX_tick_57 : decode prog_1_method_4_code 57 = .ok (.goto (-36), 3) := by decide +kernel
theorem dX_tick_60 : decode prog_1_method_4_code 60 = .ok (.aload_n 0, 1) := by decide +kernel
theorem dX_tick_61 : decode prog_1_method_4_code 61 = .ok (.getfield 38, 3) := by decide +kernel
theorem dX_tick_64 : decode prog_1_method_4_code 64 = .ok (.iconst 0, 1) := by decide +kernel
theorem dX_tick_65 : decode prog_1_method_4_code 65 = .ok (.iaload, 1) := by decide +kernel
theorem dX_tick_66 : decode prog_1_method_4_code 66 = .ok (.ireturn, 1) := by decide +kernel
theorem dX_take_0 : decode prog_1_method_5_code 0 = .ok (.iload_n 1, 1) := by decide +kernel
theorem dX_take_1 : decode prog_1_method_5_code 1 = .ok (.iconst 3, 1) := by decide +kernel
theorem dX_take_2 : decode prog_1_method_5_code 2 = .ok (.invokestatic 45, 3) := by decide +kernel
theorem dX_take_5 : decode prog_1_method_5_code 5 = .ok (.ifCond .ne 11, 3) := by decide +kernel
theorem dX_take_8 : decode prog_1_method_5_code 8 = .ok (.new 52, 3) := by decide +kernel
theorem dX_take_11 : decode prog_1_method_5_code 11 = .ok (.dup, 1) := by decide +kernel
theorem dX_take_12 : decode prog_1_method_5_code 12 = .ok (.invokespecial 54, 3) := by decide +kernel
theorem dX_take_15 : decode prog_1_method_5_code 15 = .ok (.athrow, 1) := by decide +kernel
theorem dX_take_16 : decode prog_1_method_5_code 16 = .ok (.aload_n 0, 1) := by decide +kernel
theorem dX_take_17 : decode prog_1_method_5_code 17 = .ok (.getfield 11, 3) := by decide +kernel
theorem dX_take_20 : decode prog_1_method_5_code 20 = .ok (.iload_n 1, 1) := by decide +kernel
theorem dX_take_21 : decode prog_1_method_5_code 21 = .ok (.aaload, 1) := by decide +kernel
theorem dX_take_22 : decode prog_1_method_5_code 22 = .ok (.astore_n 2, 1) := by decide +kernel
theorem dX_take_23 : decode prog_1_method_5_code 23 = .ok (.aload_n 2, 1) := by decide +kernel
theorem dX_take_24 : decode prog_1_method_5_code 24 = .ok (.getfield 97, 3) := by decide +kernel
theorem dX_take_27 : decode prog_1_method_5_code 27 = .ok (.invokevirtual 100, 3) := by decide +kernel
theorem dX_take_30 : decode prog_1_method_5_code 30 = .ok (.istore_n 3, 1) := by decide +kernel
theorem dX_take_31 : decode prog_1_method_5_code 31 = .ok (.iload_n 3, 1) := by decide +kernel
theorem dX_take_32 : decode prog_1_method_5_code 32 = .ok (.iconst (-1), 1) := by decide +kernel
theorem dX_take_33 : decode prog_1_method_5_code 33 = .ok (.if_icmp .ne 5, 3) := by decide +kernel
theorem dX_take_36 : decode prog_1_method_5_code 36 = .ok (.iconst (-1), 1) := by decide +kernel
theorem dX_take_37 : decode prog_1_method_5_code 37 = .ok (.ireturn, 1) := by decide +kernel
theorem dX_take_38 : decode prog_1_method_5_code 38 = .ok (.iload_n 3, 1) := by decide +kernel
theorem dX_take_39 : decode prog_1_method_5_code 39 = .ok (.invokestatic 104, 3) := by decide +kernel
theorem dX_take_42 : decode prog_1_method_5_code 42 = .ok (.istore 4, 2) := by decide +kernel
theorem dX_take_44 : decode prog_1_method_5_code 44 = .ok (.aload_n 0, 1) := by decide +kernel
theorem dX_take_45 : decode prog_1_method_5_code 45 = .ok (.getfield 25, 3) := by decide +kernel
theorem dX_take_48 : decode prog_1_method_5_code 48 = .ok (.iload_n 3, 1) := by decide +kernel
theorem dX_take_49 : decode prog_1_method_5_code 49 = .ok (.aaload, 1) := by decide +kernel
theorem dX_take_50 : decode prog_1_method_5_code 50 = .ok (.astore 5, 2) := by decide +kernel
theorem dX_take_52 : decode prog_1_method_5_code 52 = .ok (.aload_n 2, 1) := by decide +kernel
theorem dX_take_53 : decode prog_1_method_5_code 53 = .ok (.dup, 1) := by decide +kernel
theorem dX_take_54 : decode prog_1_method_5_code 54 = .ok (.getfield 77, 3) := by decide +kernel
theorem dX_take_57 : decode prog_1_method_5_code 57 = .ok (.iconst 1, 1) := by decide +kernel
theorem dX_take_58 : decode prog_1_method_5_code 58 = .ok (.iload 4, 2) := by decide +kernel
theorem dX_take_60 : decode prog_1_method_5_code 60 = .ok (.ishl, 1) := by decide +kernel
theorem dX_take_61 : decode prog_1_method_5_code 61 = .ok (.iconst (-1), 1) := by decide +kernel
theorem dX_take_62 : decode prog_1_method_5_code 62 = .ok (.ixor, 1) := by decide +kernel
theorem dX_take_63 : decode prog_1_method_5_code 63 = .ok (.iand, 1) := by decide +kernel
theorem dX_take_64 : decode prog_1_method_5_code 64 = .ok (.putfield 77, 3) := by decide +kernel
theorem dX_take_67 : decode prog_1_method_5_code 67 = .ok (.aload_n 0, 1) := by decide +kernel
theorem dX_take_68 : decode prog_1_method_5_code 68 = .ok (.aload 5, 2) := by decide +kernel
theorem dX_take_70 : decode prog_1_method_5_code 70 = .ok (.getfield 108, 3) := by decide +kernel
theorem dX_take_73 : decode prog_1_method_5_code 73 = .ok (.putfield 41, 3) := by decide +kernel
theorem dX_take_76 : decode prog_1_method_5_code 76 = .ok (.aload_n 0, 1) := by decide +kernel
theorem dX_take_77 : decode prog_1_method_5_code 77 = .ok (.getfield 38, 3) := by decide +kernel
theorem dX_take_80 : decode prog_1_method_5_code 80 = .ok (.iconst 5, 1) := by decide +kernel
theorem dX_take_81 : decode prog_1_method_5_code 81 = .ok (.dup2, 1) := by decide +kernel
theorem dX_take_82 : decode prog_1_method_5_code 82 = .ok (.iaload, 1) := by decide +kernel
theorem dX_take_83 : decode prog_1_method_5_code 83 = .ok (.iconst 1, 1) := by decide +kernel
theorem dX_take_84 : decode prog_1_method_5_code 84 = .ok (.iadd, 1) := by decide +kernel
theorem dX_take_85 : decode prog_1_method_5_code 85 = .ok (.iastore, 1) := by decide +kernel
theorem dX_take_86 : decode prog_1_method_5_code 86 = .ok (.iload 4, 2) := by decide +kernel
theorem dX_take_88 : decode prog_1_method_5_code 88 = .ok (.bipush 8, 2) := by decide +kernel
theorem dX_take_90 : decode prog_1_method_5_code 90 = .ok (.aload 5, 2) := by decide +kernel
theorem dX_take_92 : decode prog_1_method_5_code 92 = .ok (.getfield 111, 3) := by decide +kernel
theorem dX_take_95 : decode prog_1_method_5_code 95 = .ok (.imul, 1) := by decide +kernel
theorem dX_take_96 : decode prog_1_method_5_code 96 = .ok (.iadd, 1) := by decide +kernel
theorem dX_take_97 : decode prog_1_method_5_code 97 = .ok (.istore 6, 2) := by decide +kernel
theorem dX_take_99 : decode prog_1_method_5_code 99 = .ok (.aload 5, 2) := by decide +kernel
theorem dX_take_101 : decode prog_1_method_5_code 101 = .ok (.invokevirtual 114, 3) := by decide +kernel
theorem dX_take_104 : decode prog_1_method_5_code 104 = .ok (.ifCond .ne 6, 3) := by decide +kernel
theorem dX_take_107 : decode prog_1_method_5_code 107 = .ok (.iload 6, 2) := by decide +kernel
theorem dX_take_109 : decode prog_1_method_5_code 109 = .ok (.ireturn, 1) := by decide +kernel
theorem dX_take_110 : decode prog_1_method_5_code 110 = .ok (.aload_n 0, 1) := by decide +kernel
theorem dX_take_111 : decode prog_1_method_5_code 111 = .ok (.getfield 38, 3) := by decide +kernel
theorem dX_take_114 : decode prog_1_method_5_code 114 = .ok (.bipush 6, 2) := by decide +kernel
theorem dX_take_116 : decode prog_1_method_5_code 116 = .ok (.dup2, 1) := by decide +kernel
theorem dX_take_117 : decode prog_1_method_5_code 117 = .ok (.iaload, 1) := by decide +kernel
theorem dX_take_118 : decode prog_1_method_5_code 118 = .ok (.iconst 1, 1) := by decide +kernel
theorem dX_take_119 : decode prog_1_method_5_code 119 = .ok (.iadd, 1) := by decide +kernel
theorem dX_take_120 : decode prog_1_method_5_code 120 = .ok (.iastore, 1) := by decide +kernel
theorem dX_take_121 : decode prog_1_method_5_code 121 = .ok (.iload 6, 2) := by decide +kernel
theorem dX_take_123 : decode prog_1_method_5_code 123 = .ok (.bipush 32, 2) := by decide +kernel
theorem dX_take_125 : decode prog_1_method_5_code 125 = .ok (.iadd, 1) := by decide +kernel
theorem dX_take_126 : decode prog_1_method_5_code 126 = .ok (.ireturn, 1) := by decide +kernel
theorem dX_data_0 : decode prog_1_method_6_code 0 = .ok (.aload_n 0, 1) := by decide +kernel
theorem dX_data_1 : decode prog_1_method_6_code 1 = .ok (.getfield 41, 3) := by decide +kernel
theorem dX_data_4 : decode prog_1_method_6_code 4 = .ok (.lreturn, 1) := by decide +kernel
theorem dX_port_0 : decode prog_1_method_7_code 0 = .ok (.iload_n 1, 1) := by decide +kernel
theorem dX_port_1 : decode prog_1_method_7_code 1 = .ok (.iconst 4, 1) := by decide +kernel
theorem dX_port_2 : decode prog_1_method_7_code 2 = .ok (.invokestatic 45, 3) := by decide +kernel
theorem dX_port_5 : decode prog_1_method_7_code 5 = .ok (.ifCond .ne 11, 3) := by decide +kernel
theorem dX_port_8 : decode prog_1_method_7_code 8 = .ok (.new 117, 3) := by decide +kernel
theorem dX_port_11 : decode prog_1_method_7_code 11 = .ok (.dup, 1) := by decide +kernel
theorem dX_port_12 : decode prog_1_method_7_code 12 = .ok (.invokespecial 119, 3) := by decide +kernel
theorem dX_port_15 : decode prog_1_method_7_code 15 = .ok (.athrow, 1) := by decide +kernel
theorem dX_port_16 : decode prog_1_method_7_code 16 = .ok (.aload_n 0, 1) := by decide +kernel
theorem dX_port_17 : decode prog_1_method_7_code 17 = .ok (.getfield 18, 3) := by decide +kernel
theorem dX_port_20 : decode prog_1_method_7_code 20 = .ok (.iload_n 1, 1) := by decide +kernel
theorem dX_port_21 : decode prog_1_method_7_code 21 = .ok (.aaload, 1) := by decide +kernel
theorem dX_port_22 : decode prog_1_method_7_code 22 = .ok (.astore_n 3, 1) := by decide +kernel
theorem dX_port_23 : decode prog_1_method_7_code 23 = .ok (.iload_n 2, 1) := by decide +kernel
theorem dX_port_24 : decode prog_1_method_7_code 24 = .ok (.tableswitch 79 0 4 #[36, 44, 61, 69, 74], 36) := by decide +kernel
theorem dX_port_60 : decode prog_1_method_7_code 60 = .ok (.aload_n 3, 1) := by decide +kernel
theorem dX_port_61 : decode prog_1_method_7_code 61 = .ok (.getfield 120, 3) := by decide +kernel
theorem dX_port_64 : decode prog_1_method_7_code 64 = .ok (.getfield 81, 3) := by decide +kernel
theorem dX_port_67 : decode prog_1_method_7_code 67 = .ok (.ireturn, 1) := by decide +kernel
theorem dX_port_68 : decode prog_1_method_7_code 68 = .ok (.aload_n 3, 1) := by decide +kernel
theorem dX_port_69 : decode prog_1_method_7_code 69 = .ok (.getfield 123, 3) := by decide +kernel
theorem dX_port_72 : decode prog_1_method_7_code 72 = .ok (.iconst (-1), 1) := by decide +kernel
theorem dX_port_73 : decode prog_1_method_7_code 73 = .ok (.if_icmp .ne 7, 3) := by decide +kernel
theorem dX_port_76 : decode prog_1_method_7_code 76 = .ok (.iconst (-1), 1) := by decide +kernel
theorem dX_port_77 : decode prog_1_method_7_code 77 = .ok (.goto 7, 3) := by decide +kernel
theorem dX_port_80 : decode prog_1_method_7_code 80 = .ok (.aload_n 3, 1) := by decide +kernel
theorem dX_port_81 : decode prog_1_method_7_code 81 = .ok (.getfield 126, 3) := by decide +kernel
theorem dX_port_84 : decode prog_1_method_7_code 84 = .ok (.ireturn, 1) := by decide +kernel
theorem dX_port_85 : decode prog_1_method_7_code 85 = .ok (.aload_n 3, 1) := by decide +kernel
theorem dX_port_86 : decode prog_1_method_7_code 86 = .ok (.getfield 129, 3) := by decide +kernel
theorem dX_port_89 : decode prog_1_method_7_code 89 = .ok (.getfield 81, 3) := by decide +kernel
theorem dX_port_92 : decode prog_1_method_7_code 92 = .ok (.ireturn, 1) := by decide +kernel
theorem dX_port_93 : decode prog_1_method_7_code 93 = .ok (.aload_n 3, 1) := by decide +kernel
theorem dX_port_94 : decode prog_1_method_7_code 94 = .ok (.invokevirtual 132, 3) := by decide +kernel
theorem dX_port_97 : decode prog_1_method_7_code 97 = .ok (.ireturn, 1) := by decide +kernel
theorem dX_port_98 : decode prog_1_method_7_code 98 = .ok (.aload_n 3, 1) := by decide +kernel
theorem dX_port_99 : decode prog_1_method_7_code 99 = .ok (.getfield 135, 3) := by decide +kernel
theorem dX_port_102 : decode prog_1_method_7_code 102 = .ok (.ireturn, 1) := by decide +kernel
theorem dX_port_103 : decode prog_1_method_7_code 103 = .ok (.new 52, 3) := by decide +kernel
theorem dX_port_106 : decode prog_1_method_7_code 106 = .ok (.dup, 1) := by decide +kernel
theorem dX_port_107 : decode prog_1_method_7_code 107 = .ok (.invokespecial 54, 3) := by decide +kernel
theorem dX_port_110 : decode prog_1_method_7_code 110 = .ok (.athrow, 1) := by decide +kernel
theorem dX_owner_0 : decode prog_1_method_8_code 0 = .ok (.iload_n 1, 1) := by decide +kernel
theorem dX_owner_1 : decode prog_1_method_8_code 1 = .ok (.iconst 4, 1) := by decide +kernel
theorem dX_owner_2 : decode prog_1_method_8_code 2 = .ok (.invokestatic 45, 3) := by decide +kernel
theorem dX_owner_5 : decode prog_1_method_8_code 5 = .ok (.ifCond .eq 11, 3) := by decide +kernel
theorem dX_owner_8 : decode prog_1_method_8_code 8 = .ok (.iload_n 2, 1) := by decide +kernel
theorem dX_owner_9 : decode prog_1_method_8_code 9 = .ok (.iconst 4, 1) := by decide +kernel
theorem dX_owner_10 : decode prog_1_method_8_code 10 = .ok (.invokestatic 45, 3) := by decide +kernel
theorem dX_owner_13 : decode prog_1_method_8_code 13 = .ok (.ifCond .ne 11, 3) := by decide +kernel
theorem dX_owner_16 : decode prog_1_method_8_code 16 = .ok (.new 117, 3) := by decide +kernel
theorem dX_owner_19 : decode prog_1_method_8_code 19 = .ok (.dup, 1) := by decide +kernel
theorem dX_owner_20 : decode prog_1_method_8_code 20 = .ok (.invokespecial 119, 3) := by decide +kernel
theorem dX_owner_23 : decode prog_1_method_8_code 23 = .ok (.athrow, 1) := by decide +kernel
theorem dX_owner_24 : decode prog_1_method_8_code 24 = .ok (.aload_n 0, 1) := by decide +kernel
theorem dX_owner_25 : decode prog_1_method_8_code 25 = .ok (.getfield 18, 3) := by decide +kernel
theorem dX_owner_28 : decode prog_1_method_8_code 28 = .ok (.iload_n 1, 1) := by decide +kernel
theorem dX_owner_29 : decode prog_1_method_8_code 29 = .ok (.aaload, 1) := by decide +kernel
theorem dX_owner_30 : decode prog_1_method_8_code 30 = .ok (.getfield 138, 3) := by decide +kernel
theorem dX_owner_33 : decode prog_1_method_8_code 33 = .ok (.iload_n 2, 1) := by decide +kernel
theorem dX_owner_34 : decode prog_1_method_8_code 34 = .ok (.iaload, 1) := by decide +kernel
theorem dX_owner_35 : decode prog_1_method_8_code 35 = .ok (.ireturn, 1) := by decide +kernel
theorem dX_master_0 : decode prog_1_method_9_code 0 = .ok (.iload_n 1, 1) := by decide +kernel
theorem dX_master_1 : decode prog_1_method_9_code 1 = .ok (.iconst 3, 1) := by decide +kernel
theorem dX_master_2 : decode prog_1_method_9_code 2 = .ok (.invokestatic 45, 3) := by decide +kernel
theorem dX_master_5 : decode prog_1_method_9_code 5 = .ok (.ifCond .ne 11, 3) := by decide +kernel
theorem dX_master_8 : decode prog_1_method_9_code 8 = .ok (.new 117, 3) := by decide +kernel
theorem dX_master_11 : decode prog_1_method_9_code 11 = .ok (.dup, 1) := by decide +kernel
theorem dX_master_12 : decode prog_1_method_9_code 12 = .ok (.invokespecial 119, 3) := by decide +kernel
theorem dX_master_15 : decode prog_1_method_9_code 15 = .ok (.athrow, 1) := by decide +kernel
theorem dX_master_16 : decode prog_1_method_9_code 16 = .ok (.aload_n 0, 1) := by decide +kernel
theorem dX_master_17 : decode prog_1_method_9_code 17 = .ok (.getfield 11, 3) := by decide +kernel
theorem dX_master_20 : decode prog_1_method_9_code 20 = .ok (.iload_n 1, 1) := by decide +kernel
theorem dX_master_21 : decode prog_1_method_9_code 21 = .ok (.aaload, 1) := by decide +kernel
theorem dX_master_22 : decode prog_1_method_9_code 22 = .ok (.astore_n 3, 1) := by decide +kernel
theorem dX_master_23 : decode prog_1_method_9_code 23 = .ok (.iload_n 2, 1) := by decide +kernel
theorem dX_master_24 : decode prog_1_method_9_code 24 = .ok (.tableswitch 66 0 3 #[32, 40, 48, 53], 32) := by decide +kernel
theorem dX_master_56 : decode prog_1_method_9_code 56 = .ok (.aload_n 3, 1) := by decide +kernel
theorem dX_master_57 : decode prog_1_method_9_code 57 = .ok (.getfield 59, 3) := by decide +kernel
theorem dX_master_60 : decode prog_1_method_9_code 60 = .ok (.getfield 81, 3) := by decide +kernel
theorem dX_master_63 : decode prog_1_method_9_code 63 = .ok (.ireturn, 1) := by decide +kernel
theorem dX_master_64 : decode prog_1_method_9_code 64 = .ok (.aload_n 3, 1) := by decide +kernel
theorem dX_master_65 : decode prog_1_method_9_code 65 = .ok (.getfield 97, 3) := by decide +kernel
theorem dX_master_68 : decode prog_1_method_9_code 68 = .ok (.getfield 81, 3) := by decide +kernel
theorem dX_master_71 : decode prog_1_method_9_code 71 = .ok (.ireturn, 1) := by decide +kernel
theorem dX_master_72 : decode prog_1_method_9_code 72 = .ok (.aload_n 3, 1) := by decide +kernel
theorem dX_master_73 : decode prog_1_method_9_code 73 = .ok (.getfield 77, 3) := by decide +kernel
theorem dX_master_76 : decode prog_1_method_9_code 76 = .ok (.ireturn, 1) := by decide +kernel
theorem dX_master_77 : decode prog_1_method_9_code 77 = .ok (.aload_n 3, 1) := by decide +kernel
theorem dX_master_78 : decode prog_1_method_9_code 78 = .ok (.getfield 84, 3) := by decide +kernel
theorem dX_master_81 : decode prog_1_method_9_code 81 = .ok (.ifCond .eq 7, 3) := by decide +kernel
theorem dX_master_84 : decode prog_1_method_9_code 84 = .ok (.iconst 1, 1) := by decide +kernel
theorem dX_master_85 : decode prog_1_method_9_code 85 = .ok (.goto 4, 3) := by decide +kernel
theorem dX_master_88 : decode prog_1_method_9_code 88 = .ok (.iconst 0, 1) := by decide +kernel
theorem dX_master_89 : decode prog_1_method_9_code 89 = .ok (.ireturn, 1) := by decide +kernel
theorem dX_master_90 : decode prog_1_method_9_code 90 = .ok (.new 52, 3) := by decide +kernel
theorem dX_master_93 : decode prog_1_method_9_code 93 = .ok (.dup, 1) := by decide +kernel
theorem dX_master_94 : decode prog_1_method_9_code 94 = .ok (.invokespecial 54, 3) := by decide +kernel
theorem dX_master_97 : decode prog_1_method_9_code 97 = .ok (.athrow, 1) := by decide +kernel
theorem dX_memory_0 : decode prog_1_method_10_code 0 = .ok (.iload_n 1, 1) := by decide +kernel
theorem dX_memory_1 : decode prog_1_method_10_code 1 = .ok (.sipush 640, 3) := by decide +kernel
theorem dX_memory_4 : decode prog_1_method_10_code 4 = .ok (.invokestatic 45, 3) := by decide +kernel
theorem dX_memory_7 : decode prog_1_method_10_code 7 = .ok (.ifCond .ne 11, 3) := by decide +kernel
theorem dX_memory_10 : decode prog_1_method_10_code 10 = .ok (.new 117, 3) := by decide +kernel
theorem dX_memory_13 : decode prog_1_method_10_code 13 = .ok (.dup, 1) := by decide +kernel
theorem dX_memory_14 : decode prog_1_method_10_code 14 = .ok (.invokespecial 119, 3) := by decide +kernel
theorem dX_memory_17 : decode prog_1_method_10_code 17 = .ok (.athrow, 1) := by decide +kernel
theorem dX_memory_18 : decode prog_1_method_10_code 18 = .ok (.aload_n 0, 1) := by decide +kernel
theorem dX_memory_19 : decode prog_1_method_10_code 19 = .ok (.getfield 30, 3) := by decide +kernel
theorem dX_memory_22 : decode prog_1_method_10_code 22 = .ok (.iload_n 1, 1) := by decide +kernel
theorem dX_memory_23 : decode prog_1_method_10_code 23 = .ok (.baload, 1) := by decide +kernel
theorem dX_memory_24 : decode prog_1_method_10_code 24 = .ok (.sipush 255, 3) := by decide +kernel
theorem dX_memory_27 : decode prog_1_method_10_code 27 = .ok (.iand, 1) := by decide +kernel
theorem dX_memory_28 : decode prog_1_method_10_code 28 = .ok (.ireturn, 1) := by decide +kernel
theorem dX_done_0 : decode prog_1_method_11_code 0 = .ok (.iload_n 1, 1) := by decide +kernel
theorem dX_done_1 : decode prog_1_method_11_code 1 = .ok (.bipush 32, 2) := by decide +kernel
theorem dX_done_3 : decode prog_1_method_11_code 3 = .ok (.invokestatic 45, 3) := by decide +kernel
theorem dX_done_6 : decode prog_1_method_11_code 6 = .ok (.ifCond .eq 13, 3) := by decide +kernel
theorem dX_done_9 : decode prog_1_method_11_code 9 = .ok (.iload_n 1, 1) := by decide +kernel
theorem dX_done_10 : decode prog_1_method_11_code 10 = .ok (.aload_n 0, 1) := by decide +kernel
theorem dX_done_11 : decode prog_1_method_11_code 11 = .ok (.getfield 38, 3) := by decide +kernel
theorem dX_done_14 : decode prog_1_method_11_code 14 = .ok (.iconst 3, 1) := by decide +kernel
theorem dX_done_15 : decode prog_1_method_11_code 15 = .ok (.iaload, 1) := by decide +kernel
theorem dX_done_16 : decode prog_1_method_11_code 16 = .ok (.if_icmp .lt 5, 3) := by decide +kernel
theorem dX_done_19 : decode prog_1_method_11_code 19 = .ok (.iconst (-1), 1) := by decide +kernel
theorem dX_done_20 : decode prog_1_method_11_code 20 = .ok (.ireturn, 1) := by decide +kernel
theorem dX_done_21 : decode prog_1_method_11_code 21 = .ok (.aload_n 0, 1) := by decide +kernel
theorem dX_done_22 : decode prog_1_method_11_code 22 = .ok (.getfield 34, 3) := by decide +kernel
theorem dX_done_25 : decode prog_1_method_11_code 25 = .ok (.aload_n 0, 1) := by decide +kernel
theorem dX_done_26 : decode prog_1_method_11_code 26 = .ok (.getfield 38, 3) := by decide +kernel
theorem dX_done_29 : decode prog_1_method_11_code 29 = .ok (.iconst 3, 1) := by decide +kernel
theorem dX_done_30 : decode prog_1_method_11_code 30 = .ok (.iaload, 1) := by decide +kernel
theorem dX_done_31 : decode prog_1_method_11_code 31 = .ok (.iconst 1, 1) := by decide +kernel
theorem dX_done_32 : decode prog_1_method_11_code 32 = .ok (.isub, 1) := by decide +kernel
theorem dX_done_33 : decode prog_1_method_11_code 33 = .ok (.iload_n 1, 1) := by decide +kernel
theorem dX_done_34 : decode prog_1_method_11_code 34 = .ok (.isub, 1) := by decide +kernel
theorem dX_done_35 : decode prog_1_method_11_code 35 = .ok (.invokestatic 141, 3) := by decide +kernel
theorem dX_done_38 : decode prog_1_method_11_code 38 = .ok (.iaload, 1) := by decide +kernel
theorem dX_done_39 : decode prog_1_method_11_code 39 = .ok (.ireturn, 1) := by decide +kernel
theorem dX_count_0 : decode prog_1_method_12_code 0 = .ok (.iload_n 1, 1) := by decide +kernel
theorem dX_count_1 : decode prog_1_method_12_code 1 = .ok (.bipush 8, 2) := by decide +kernel
theorem dX_count_3 : decode prog_1_method_12_code 3 = .ok (.invokestatic 45, 3) := by decide +kernel
theorem dX_count_6 : decode prog_1_method_12_code 6 = .ok (.ifCond .eq 12, 3) := by decide +kernel
theorem dX_count_9 : decode prog_1_method_12_code 9 = .ok (.aload_n 0, 1) := by decide +kernel
theorem dX_count_10 : decode prog_1_method_12_code 10 = .ok (.getfield 38, 3) := by decide +kernel
theorem dX_count_13 : decode prog_1_method_12_code 13 = .ok (.iload_n 1, 1) := by decide +kernel
theorem dX_count_14 : decode prog_1_method_12_code 14 = .ok (.iaload, 1) := by decide +kernel
theorem dX_count_15 : decode prog_1_method_12_code 15 = .ok (.goto 4, 3) := by decide +kernel
theorem dX_count_18 : decode prog_1_method_12_code 18 = .ok (.iconst (-1), 1) := by decide +kernel
theorem dX_count_19 : decode prog_1_method_12_code 19 = .ok (.ireturn, 1) := by decide +kernel
theorem dX_runTick_0 : decode prog_1_method_13_code 0 = .ok (.aload_n 0, 1) := by decide +kernel
theorem dX_runTick_1 : decode prog_1_method_13_code 1 = .ok (.invokevirtual 144, 3) := by decide +kernel
theorem dX_runTick_4 : decode prog_1_method_13_code 4 = .ok (.istore_n 1, 1) := by decide +kernel
theorem dX_runTick_5 : decode prog_1_method_13_code 5 = .ok (.aload_n 0, 1) := by decide +kernel
theorem dX_runTick_6 : decode prog_1_method_13_code 6 = .ok (.invokevirtual 147, 3) := by decide +kernel
theorem dX_runTick_9 : decode prog_1_method_13_code 9 = .ok (.istore_n 2, 1) := by decide +kernel
theorem dX_runTick_10 : decode prog_1_method_13_code 10 = .ok (.aload_n 0, 1) := by decide +kernel
theorem dX_runTick_11 : decode prog_1_method_13_code 11 = .ok (.invokevirtual 150, 3) := by decide +kernel
theorem dX_runTick_14 : decode prog_1_method_13_code 14 = .ok (.istore_n 3, 1) := by decide +kernel
theorem dX_runTick_15 : decode prog_1_method_13_code 15 = .ok (.iload_n 1, 1) := by decide +kernel
theorem dX_runTick_16 : decode prog_1_method_13_code 16 = .ok (.ifCond .ne 11, 3) := by decide +kernel
theorem dX_runTick_19 : decode prog_1_method_13_code 19 = .ok (.iload_n 2, 1) := by decide +kernel
theorem dX_runTick_20 : decode prog_1_method_13_code 20 = .ok (.ifCond .ne 7, 3) := by decide +kernel
theorem dX_runTick_23 : decode prog_1_method_13_code 23 = .ok (.iload_n 3, 1) := by decide +kernel
theorem dX_runTick_24 : decode prog_1_method_13_code 24 = .ok (.ifCond .eq 7, 3) := by decide +kernel
theorem dX_runTick_27 : decode prog_1_method_13_code 27 = .ok (.iconst 1, 1) := by decide +kernel
theorem dX_runTick_28 : decode prog_1_method_13_code 28 = .ok (.goto 4, 3) := by decide +kernel
theorem dX_runTick_31 : decode prog_1_method_13_code 31 = .ok (.iconst 0, 1) := by decide +kernel
theorem dX_runTick_32 : decode prog_1_method_13_code 32 = .ok (.istore 4, 2) := by decide +kernel
theorem dX_runTick_34 : decode prog_1_method_13_code 34 = .ok (.aload_n 0, 1) := by decide +kernel
theorem dX_runTick_35 : decode prog_1_method_13_code 35 = .ok (.getfield 38, 3) := by decide +kernel
theorem dX_runTick_38 : decode prog_1_method_13_code 38 = .ok (.iconst 0, 1) := by decide +kernel
theorem dX_runTick_39 : decode prog_1_method_13_code 39 = .ok (.dup2, 1) := by decide +kernel
theorem dX_runTick_40 : decode prog_1_method_13_code 40 = .ok (.iaload, 1) := by decide +kernel
theorem dX_runTick_41 : decode prog_1_method_13_code 41 = .ok (.iconst 1, 1) := by decide +kernel
theorem dX_runTick_42 : decode prog_1_method_13_code 42 = .ok (.iadd, 1) := by decide +kernel
theorem dX_runTick_43 : decode prog_1_method_13_code 43 = .ok (.iastore, 1) := by decide +kernel
theorem dX_runTick_44 : decode prog_1_method_13_code 44 = .ok (.iload 4, 2) := by decide +kernel
theorem dX_runTick_46 : decode prog_1_method_13_code 46 = .ok (.ifCond .ne 14, 3) := by decide +kernel
theorem dX_runTick_49 : decode prog_1_method_13_code 49 = .ok (.aload_n 0, 1) := by decide +kernel
theorem dX_runTick_50 : decode prog_1_method_13_code 50 = .ok (.getfield 38, 3) := by decide +kernel
theorem dX_runTick_53 : decode prog_1_method_13_code 53 = .ok (.bipush 7, 2) := by decide +kernel
theorem dX_runTick_55 : decode prog_1_method_13_code 55 = .ok (.dup2, 1) := by decide +kernel
theorem dX_runTick_56 : decode prog_1_method_13_code 56 = .ok (.iaload, 1) := by decide +kernel
theorem dX_runTick_57 : decode prog_1_method_13_code 57 = .ok (.iconst 1, 1) := by decide +kernel
theorem dX_runTick_58 : decode prog_1_method_13_code 58 = .ok (.iadd, 1) := by decide +kernel
theorem dX_runTick_59 : decode prog_1_method_13_code 59 = .ok (.iastore, 1) := by decide +kernel
theorem dX_runTick_60 : decode prog_1_method_13_code 60 = .ok (.iload 4, 2) := by decide +kernel
theorem dX_runTick_62 : decode prog_1_method_13_code 62 = .ok (.ireturn, 1) := by decide +kernel
theorem dX_anyJobRuns_0 : decode prog_1_method_14_code 0 = .ok (.iconst 0, 1) := by decide +kernel
theorem dX_anyJobRuns_1 : decode prog_1_method_14_code 1 = .ok (.istore_n 1, 1) := by decide +kernel
theorem dX_anyJobRuns_2 : decode prog_1_method_14_code 2 = .ok (.iload_n 1, 1) := by decide +kernel
theorem dX_anyJobRuns_3 : decode prog_1_method_14_code 3 = .ok (.iconst 4, 1) := by decide +kernel
theorem dX_anyJobRuns_4 : decode prog_1_method_14_code 4 = .ok (.if_icmp .ge 23, 3) := by decide +kernel
theorem dX_anyJobRuns_7 : decode prog_1_method_14_code 7 = .ok (.aload_n 0, 1) := by decide +kernel
theorem dX_anyJobRuns_8 : decode prog_1_method_14_code 8 = .ok (.getfield 18, 3) := by decide +kernel
theorem dX_anyJobRuns_11 : decode prog_1_method_14_code 11 = .ok (.iload_n 1, 1) := by decide +kernel
theorem dX_anyJobRuns_12 : decode prog_1_method_14_code 12 = .ok (.aaload, 1) := by decide +kernel
theorem dX_anyJobRuns_13 : decode prog_1_method_14_code 13 = .ok (.getfield 126, 3) := by decide +kernel
theorem dX_anyJobRuns_16 : decode prog_1_method_14_code 16 = .ok (.ifCond .le 5, 3) := by decide +kernel
theorem dX_anyJobRuns_19 : decode prog_1_method_14_code 19 = .ok (.iconst 1, 1) := by decide +kernel
theorem dX_anyJobRuns_20 : decode prog_1_method_14_code 20 = .ok (.ireturn, 1) := by decide +kernel
theorem dX_anyJobRuns_21 : decode prog_1_method_14_code 21 = .ok (.iinc 1 1, 3) := by decide +kernel
theorem dX_anyJobRuns_24 : decode prog_1_method_14_code 24 = .ok (.goto (-22), 3) := by decide +kernel
theorem dX_anyJobRuns_27 : decode prog_1_method_14_code 27 = .ok (.iconst 0, 1) := by decide +kernel
theorem dX_anyJobRuns_28 : decode prog_1_method_14_code 28 = .ok (.ireturn, 1) := by decide +kernel
theorem dX_countStillTicks_0 : decode prog_1_method_15_code 0 = .ok (.aload_n 0, 1) := by decide +kernel
theorem dX_countStillTicks_1 : decode prog_1_method_15_code 1 = .ok (.getfield 38, 3) := by decide +kernel
theorem dX_countStillTicks_4 : decode prog_1_method_15_code 4 = .ok (.iconst 0, 1) := by decide +kernel
theorem dX_countStillTicks_5 : decode prog_1_method_15_code 5 = .ok (.dup2, 1) := by decide +kernel
theorem dX_countStillTicks_6 : decode prog_1_method_15_code 6 = .ok (.iaload, 1) := by decide +kernel
theorem dX_countStillTicks_7 : decode prog_1_method_15_code 7 = .ok (.iload_n 1, 1) := by decide +kernel
theorem dX_countStillTicks_8 : decode prog_1_method_15_code 8 = .ok (.iadd, 1) := by decide +kernel
theorem dX_countStillTicks_9 : decode prog_1_method_15_code 9 = .ok (.iastore, 1) := by decide +kernel
theorem dX_countStillTicks_10 : decode prog_1_method_15_code 10 = .ok (.aload_n 0, 1) := by decide +kernel
theorem dX_countStillTicks_11 : decode prog_1_method_15_code 11 = .ok (.getfield 38, 3) := by decide +kernel
theorem dX_countStillTicks_14 : decode prog_1_method_15_code 14 = .ok (.bipush 7, 2) := by decide +kernel
theorem dX_countStillTicks_16 : decode prog_1_method_15_code 16 = .ok (.dup2, 1) := by decide +kernel
theorem dX_countStillTicks_17 : decode prog_1_method_15_code 17 = .ok (.iaload, 1) := by decide +kernel
theorem dX_countStillTicks_18 : decode prog_1_method_15_code 18 = .ok (.iload_n 1, 1) := by decide +kernel
theorem dX_countStillTicks_19 : decode prog_1_method_15_code 19 = .ok (.iadd, 1) := by decide +kernel
theorem dX_countStillTicks_20 : decode prog_1_method_15_code 20 = .ok (.iastore, 1) := by decide +kernel
theorem dX_countStillTicks_21 : decode prog_1_method_15_code 21 = .ok (.return_, 1) := by decide +kernel
theorem dX_moveAnswers_0 : decode prog_1_method_16_code 0 = .ok (.iconst 0, 1) := by decide +kernel
theorem dX_moveAnswers_1 : decode prog_1_method_16_code 1 = .ok (.istore_n 1, 1) := by decide +kernel
theorem dX_moveAnswers_2 : decode prog_1_method_16_code 2 = .ok (.iconst 0, 1) := by decide +kernel
theorem dX_moveAnswers_3 : decode prog_1_method_16_code 3 = .ok (.istore_n 2, 1) := by decide +kernel
theorem dX_moveAnswers_4 : decode prog_1_method_16_code 4 = .ok (.iload_n 2, 1) := by decide +kernel
theorem dX_moveAnswers_5 : decode prog_1_method_16_code 5 = .ok (.iconst 3, 1) := by decide +kernel
theorem dX_moveAnswers_6 : decode prog_1_method_16_code 6 = .ok (.if_icmp .ge 28, 3) := by decide +kernel
theorem dX_moveAnswers_9 : decode prog_1_method_16_code 9 = .ok (.aload_n 0, 1) := by decide +kernel
theorem dX_moveAnswers_10 : decode prog_1_method_16_code 10 = .ok (.iload_n 2, 1) := by decide +kernel
theorem dX_moveAnswers_11 : decode prog_1_method_16_code 11 = .ok (.invokevirtual 153, 3) := by decide +kernel
theorem dX_moveAnswers_14 : decode prog_1_method_16_code 14 = .ok (.istore_n 3, 1) := by decide +kernel
theorem dX_moveAnswers_15 : decode prog_1_method_16_code 15 = .ok (.iload_n 3, 1) := by decide +kernel
theorem dX_moveAnswers_16 : decode prog_1_method_16_code 16 = .ok (.iconst (-1), 1) := by decide +kernel
theorem dX_moveAnswers_17 : decode prog_1_method_16_code 17 = .ok (.if_icmp .eq 11, 3) := by decide +kernel
theorem dX_moveAnswers_20 : decode prog_1_method_16_code 20 = .ok (.aload_n 0, 1) := by decide +kernel
theorem dX_moveAnswers_21 : decode prog_1_method_16_code 21 = .ok (.iload_n 3, 1) := by decide +kernel
theorem dX_moveAnswers_22 : decode prog_1_method_16_code 22 = .ok (.iload_n 2, 1) := by decide +kernel
theorem dX_moveAnswers_23 : decode prog_1_method_16_code 23 = .ok (.invokevirtual 156, 3) := by decide +kernel
theorem dX_moveAnswers_26 : decode prog_1_method_16_code 26 = .ok (.iconst 1, 1) := by decide +kernel
theorem dX_moveAnswers_27 : decode prog_1_method_16_code 27 = .ok (.istore_n 1, 1) := by decide +kernel
theorem dX_moveAnswers_28 : decode prog_1_method_16_code 28 = .ok (.iinc 2 1, 3) := by decide +kernel
theorem dX_moveAnswers_31 : decode prog_1_method_16_code 31 = .ok (.goto (-27), 3) := by decide +kernel
theorem dX_moveAnswers_34 : decode prog_1_method_16_code 34 = .ok (.iload_n 1, 1) := by decide +kernel
theorem dX_moveAnswers_35 : decode prog_1_method_16_code 35 = .ok (.ireturn, 1) := by decide +kernel
theorem dX_nextAnsweringPort_0 : decode prog_1_method_17_code 0 = .ok (.aload_n 0, 1) := by decide +kernel
theorem dX_nextAnsweringPort_1 : decode prog_1_method_17_code 1 = .ok (.getfield 11, 3) := by decide +kernel
theorem dX_nextAnsweringPort_4 : decode prog_1_method_17_code 4 = .ok (.iload_n 1, 1) := by decide +kernel
theorem dX_nextAnsweringPort_5 : decode prog_1_method_17_code 5 = .ok (.aaload, 1) := by decide +kernel
theorem dX_nextAnsweringPort_6 : decode prog_1_method_17_code 6 = .ok (.invokevirtual 160, 3) := by decide +kernel
theorem dX_nextAnsweringPort_9 : decode prog_1_method_17_code 9 = .ok (.ifCond .ne 5, 3) := by decide +kernel
theorem dX_nextAnsweringPort_12 : decode prog_1_method_17_code 12 = .ok (.iconst (-1), 1) := by decide +kernel
theorem dX_nextAnsweringPort_13 : decode prog_1_method_17_code 13 = .ok (.ireturn, 1) := by decide +kernel
theorem dX_nextAnsweringPort_14 : decode prog_1_method_17_code 14 = .ok (.iconst 1, 1) := by decide +kernel
theorem dX_nextAnsweringPort_15 : decode prog_1_method_17_code 15 = .ok (.istore_n 2, 1) := by decide +kernel
theorem dX_nextAnsweringPort_16 : decode prog_1_method_17_code 16 = .ok (.iload_n 2, 1) := by decide +kernel
theorem dX_nextAnsweringPort_17 : decode prog_1_method_17_code 17 = .ok (.iconst 4, 1) := by decide +kernel
theorem dX_nextAnsweringPort_18 : decode prog_1_method_17_code 18 = .ok (.if_icmp .gt 55, 3) := by decide +kernel
theorem dX_nextAnsweringPort_21 : decode prog_1_method_17_code 21 = .ok (.aload_n 0, 1) := by decide +kernel
theorem dX_nextAnsweringPort_22 : decode prog_1_method_17_code 22 = .ok (.getfield 11, 3) := by decide +kernel
theorem dX_nextAnsweringPort_25 : decode prog_1_method_17_code 25 = .ok (.iload_n 1, 1) := by decide +kernel
theorem dX_nextAnsweringPort_26 : decode prog_1_method_17_code 26 = .ok (.aaload, 1) := by decide +kernel
theorem dX_nextAnsweringPort_27 : decode prog_1_method_17_code 27 = .ok (.getfield 163, 3) := by decide +kernel
theorem dX_nextAnsweringPort_30 : decode prog_1_method_17_code 30 = .ok (.iload_n 2, 1) := by decide +kernel
theorem dX_nextAnsweringPort_31 : decode prog_1_method_17_code 31 = .ok (.iconst 4, 1) := by decide +kernel
theorem dX_nextAnsweringPort_32 : decode prog_1_method_17_code 32 = .ok (.invokestatic 166, 3) := by decide +kernel
theorem dX_nextAnsweringPort_35 : decode prog_1_method_17_code 35 = .ok (.istore_n 3, 1) := by decide +kernel
theorem dX_nextAnsweringPort_36 : decode prog_1_method_17_code 36 = .ok (.aload_n 0, 1) := by decide +kernel
theorem dX_nextAnsweringPort_37 : decode prog_1_method_17_code 37 = .ok (.getfield 18, 3) := by decide +kernel
theorem dX_nextAnsweringPort_40 : decode prog_1_method_17_code 40 = .ok (.iload_n 3, 1) := by decide +kernel
theorem dX_nextAnsweringPort_41 : decode prog_1_method_17_code 41 = .ok (.aaload, 1) := by decide +kernel
theorem dX_nextAnsweringPort_42 : decode prog_1_method_17_code 42 = .ok (.getfield 129, 3) := by decide +kernel
theorem dX_nextAnsweringPort_45 : decode prog_1_method_17_code 45 = .ok (.invokevirtual 170, 3) := by decide +kernel
theorem dX_nextAnsweringPort_48 : decode prog_1_method_17_code 48 = .ok (.istore 4, 2) := by decide +kernel
theorem dX_nextAnsweringPort_50 : decode prog_1_method_17_code 50 = .ok (.iload 4, 2) := by decide +kernel
theorem dX_nextAnsweringPort_52 : decode prog_1_method_17_code 52 = .ok (.iconst (-1), 1) := by decide +kernel
theorem dX_nextAnsweringPort_53 : decode prog_1_method_17_code 53 = .ok (.if_icmp .eq 14, 3) := by decide +kernel
theorem dX_nextAnsweringPort_56 : decode prog_1_method_17_code 56 = .ok (.iload 4, 2) := by decide +kernel
theorem dX_nextAnsweringPort_58 : decode prog_1_method_17_code 58 = .ok (.invokestatic 173, 3) := by decide +kernel
theorem dX_nextAnsweringPort_61 : decode prog_1_method_17_code 61 = .ok (.iload_n 1, 1) := by decide +kernel
theorem dX_nextAnsweringPort_62 : decode prog_1_method_17_code 62 = .ok (.if_icmp .ne 5, 3) := by decide +kernel
theorem dX_nextAnsweringPort_65 : decode prog_1_method_17_code 65 = .ok (.iload_n 3, 1) := by decide +kernel
theorem dX_nextAnsweringPort_66 : decode prog_1_method_17_code 66 = .ok (.ireturn, 1) := by decide +kernel
theorem dX_nextAnsweringPort_67 : decode prog_1_method_17_code 67 = .ok (.iinc 2 1, 3) := by decide +kernel
theorem dX_nextAnsweringPort_70 : decode prog_1_method_17_code 70 = .ok (.goto (-54), 3) := by decide +kernel
theorem dX_nextAnsweringPort_73 : decode prog_1_method_17_code 73 = .ok (.iconst (-1), 1) := by decide +kernel
theorem dX_nextAnsweringPort_74 : decode prog_1_method_17_code 74 = .ok (.ireturn, 1) := by decide +kernel
theorem dX_moveAnswer_0 : decode prog_1_method_18_code 0 = .ok (.aload_n 0, 1) := by decide +kernel
theorem dX_moveAnswer_1 : decode prog_1_method_18_code 1 = .ok (.getfield 18, 3) := by decide +kernel
theorem dX_moveAnswer_4 : decode prog_1_method_18_code 4 = .ok (.iload_n 1, 1) := by decide +kernel
theorem dX_moveAnswer_5 : decode prog_1_method_18_code 5 = .ok (.aaload, 1) := by decide +kernel
theorem dX_moveAnswer_6 : decode prog_1_method_18_code 6 = .ok (.getfield 129, 3) := by decide +kernel
theorem dX_moveAnswer_9 : decode prog_1_method_18_code 9 = .ok (.invokevirtual 100, 3) := by decide +kernel
theorem dX_moveAnswer_12 : decode prog_1_method_18_code 12 = .ok (.istore_n 3, 1) := by decide +kernel
theorem dX_moveAnswer_13 : decode prog_1_method_18_code 13 = .ok (.aload_n 0, 1) := by decide +kernel
theorem dX_moveAnswer_14 : decode prog_1_method_18_code 14 = .ok (.getfield 18, 3) := by decide +kernel
theorem dX_moveAnswer_17 : decode prog_1_method_18_code 17 = .ok (.iload_n 1, 1) := by decide +kernel
theorem dX_moveAnswer_18 : decode prog_1_method_18_code 18 = .ok (.aaload, 1) := by decide +kernel
theorem dX_moveAnswer_19 : decode prog_1_method_18_code 19 = .ok (.iload_n 3, 1) := by decide +kernel
theorem dX_moveAnswer_20 : decode prog_1_method_18_code 20 = .ok (.invokevirtual 176, 3) := by decide +kernel
theorem dX_moveAnswer_23 : decode prog_1_method_18_code 23 = .ok (.aload_n 0, 1) := by decide +kernel
theorem dX_moveAnswer_24 : decode prog_1_method_18_code 24 = .ok (.getfield 11, 3) := by decide +kernel
theorem dX_moveAnswer_27 : decode prog_1_method_18_code 27 = .ok (.iload_n 2, 1) := by decide +kernel
theorem dX_moveAnswer_28 : decode prog_1_method_18_code 28 = .ok (.aaload, 1) := by decide +kernel
theorem dX_moveAnswer_29 : decode prog_1_method_18_code 29 = .ok (.getfield 97, 3) := by decide +kernel
theorem dX_moveAnswer_32 : decode prog_1_method_18_code 32 = .ok (.iload_n 3, 1) := by decide +kernel
theorem dX_moveAnswer_33 : decode prog_1_method_18_code 33 = .ok (.invokevirtual 73, 3) := by decide +kernel
theorem dX_moveAnswer_36 : decode prog_1_method_18_code 36 = .ok (.aload_n 0, 1) := by decide +kernel
theorem dX_moveAnswer_37 : decode prog_1_method_18_code 37 = .ok (.getfield 11, 3) := by decide +kernel
theorem dX_moveAnswer_40 : decode prog_1_method_18_code 40 = .ok (.iload_n 2, 1) := by decide +kernel
theorem dX_moveAnswer_41 : decode prog_1_method_18_code 41 = .ok (.aaload, 1) := by decide +kernel
theorem dX_moveAnswer_42 : decode prog_1_method_18_code 42 = .ok (.iload_n 1, 1) := by decide +kernel
theorem dX_moveAnswer_43 : decode prog_1_method_18_code 43 = .ok (.putfield 163, 3) := by decide +kernel
theorem dX_moveAnswer_46 : decode prog_1_method_18_code 46 = .ok (.aload_n 0, 1) := by decide +kernel
theorem dX_moveAnswer_47 : decode prog_1_method_18_code 47 = .ok (.getfield 38, 3) := by decide +kernel
theorem dX_moveAnswer_50 : decode prog_1_method_18_code 50 = .ok (.iconst 4, 1) := by decide +kernel
theorem dX_moveAnswer_51 : decode prog_1_method_18_code 51 = .ok (.dup2, 1) := by decide +kernel
theorem dX_moveAnswer_52 : decode prog_1_method_18_code 52 = .ok (.iaload, 1) := by decide +kernel
theorem dX_moveAnswer_53 : decode prog_1_method_18_code 53 = .ok (.iconst 1, 1) := by decide +kernel
theorem dX_moveAnswer_54 : decode prog_1_method_18_code 54 = .ok (.iadd, 1) := by decide +kernel
theorem dX_moveAnswer_55 : decode prog_1_method_18_code 55 = .ok (.iastore, 1) := by decide +kernel
theorem dX_moveAnswer_56 : decode prog_1_method_18_code 56 = .ok (.return_, 1) := by decide +kernel
theorem dX_servePorts_0 : decode prog_1_method_19_code 0 = .ok (.iconst 0, 1) := by decide +kernel
theorem dX_servePorts_1 : decode prog_1_method_19_code 1 = .ok (.istore_n 1, 1) := by decide +kernel
theorem dX_servePorts_2 : decode prog_1_method_19_code 2 = .ok (.iconst 0, 1) := by decide +kernel
theorem dX_servePorts_3 : decode prog_1_method_19_code 3 = .ok (.istore_n 2, 1) := by decide +kernel
theorem dX_servePorts_4 : decode prog_1_method_19_code 4 = .ok (.iload_n 2, 1) := by decide +kernel
theorem dX_servePorts_5 : decode prog_1_method_19_code 5 = .ok (.iconst 4, 1) := by decide +kernel
theorem dX_servePorts_6 : decode prog_1_method_19_code 6 = .ok (.if_icmp .ge 56, 3) := by decide +kernel
theorem dX_servePorts_9 : decode prog_1_method_19_code 9 = .ok (.aload_n 0, 1) := by decide +kernel
theorem dX_servePorts_10 : decode prog_1_method_19_code 10 = .ok (.getfield 18, 3) := by decide +kernel
theorem dX_servePorts_13 : decode prog_1_method_19_code 13 = .ok (.iload_n 2, 1) := by decide +kernel
theorem dX_servePorts_14 : decode prog_1_method_19_code 14 = .ok (.aaload, 1) := by decide +kernel
theorem dX_servePorts_15 : decode prog_1_method_19_code 15 = .ok (.invokevirtual 179, 3) := by decide +kernel
theorem dX_servePorts_18 : decode prog_1_method_19_code 18 = .ok (.aload_n 0, 1) := by decide +kernel
theorem dX_servePorts_19 : decode prog_1_method_19_code 19 = .ok (.getfield 18, 3) := by decide +kernel
theorem dX_servePorts_22 : decode prog_1_method_19_code 22 = .ok (.iload_n 2, 1) := by decide +kernel
theorem dX_servePorts_23 : decode prog_1_method_19_code 23 = .ok (.aaload, 1) := by decide +kernel
theorem dX_servePorts_24 : decode prog_1_method_19_code 24 = .ok (.invokevirtual 182, 3) := by decide +kernel
theorem dX_servePorts_27 : decode prog_1_method_19_code 27 = .ok (.ifCond .eq 10, 3) := by decide +kernel
theorem dX_servePorts_30 : decode prog_1_method_19_code 30 = .ok (.aload_n 0, 1) := by decide +kernel
theorem dX_servePorts_31 : decode prog_1_method_19_code 31 = .ok (.iload_n 2, 1) := by decide +kernel
theorem dX_servePorts_32 : decode prog_1_method_19_code 32 = .ok (.invokevirtual 185, 3) := by decide +kernel
theorem dX_servePorts_35 : decode prog_1_method_19_code 35 = .ok (.iconst 1, 1) := by decide +kernel
theorem dX_servePorts_36 : decode prog_1_method_19_code 36 = .ok (.istore_n 1, 1) := by decide +kernel
theorem dX_servePorts_37 : decode prog_1_method_19_code 37 = .ok (.aload_n 0, 1) := by decide +kernel
theorem dX_servePorts_38 : decode prog_1_method_19_code 38 = .ok (.getfield 18, 3) := by decide +kernel
theorem dX_servePorts_41 : decode prog_1_method_19_code 41 = .ok (.iload_n 2, 1) := by decide +kernel
theorem dX_servePorts_42 : decode prog_1_method_19_code 42 = .ok (.aaload, 1) := by decide +kernel
theorem dX_servePorts_43 : decode prog_1_method_19_code 43 = .ok (.invokevirtual 188, 3) := by decide +kernel
theorem dX_servePorts_46 : decode prog_1_method_19_code 46 = .ok (.ifCond .eq 10, 3) := by decide +kernel
theorem dX_servePorts_49 : decode prog_1_method_19_code 49 = .ok (.aload_n 0, 1) := by decide +kernel
theorem dX_servePorts_50 : decode prog_1_method_19_code 50 = .ok (.iload_n 2, 1) := by decide +kernel
theorem dX_servePorts_51 : decode prog_1_method_19_code 51 = .ok (.invokevirtual 191, 3) := by decide +kernel
theorem dX_servePorts_54 : decode prog_1_method_19_code 54 = .ok (.iconst 1, 1) := by decide +kernel
theorem dX_servePorts_55 : decode prog_1_method_19_code 55 = .ok (.istore_n 1, 1) := by decide +kernel
theorem dX_servePorts_56 : decode prog_1_method_19_code 56 = .ok (.iinc 2 1, 3) := by decide +kernel
theorem dX_servePorts_59 : decode prog_1_method_19_code 59 = .ok (.goto (-55), 3) := by decide +kernel
theorem dX_servePorts_62 : decode prog_1_method_19_code 62 = .ok (.iload_n 1, 1) := by decide +kernel
theorem dX_servePorts_63 : decode prog_1_method_19_code 63 = .ok (.ireturn, 1) := by decide +kernel
theorem dX_finishJob_0 : decode prog_1_method_20_code 0 = .ok (.aload_n 0, 1) := by decide +kernel
theorem dX_finishJob_1 : decode prog_1_method_20_code 1 = .ok (.getfield 18, 3) := by decide +kernel
theorem dX_finishJob_4 : decode prog_1_method_20_code 4 = .ok (.iload_n 1, 1) := by decide +kernel
theorem dX_finishJob_5 : decode prog_1_method_20_code 5 = .ok (.aaload, 1) := by decide +kernel
theorem dX_finishJob_6 : decode prog_1_method_20_code 6 = .ok (.invokevirtual 194, 3) := by decide +kernel
theorem dX_finishJob_9 : decode prog_1_method_20_code 9 = .ok (.istore_n 2, 1) := by decide +kernel
theorem dX_finishJob_10 : decode prog_1_method_20_code 10 = .ok (.iload_n 2, 1) := by decide +kernel
theorem dX_finishJob_11 : decode prog_1_method_20_code 11 = .ok (.iconst (-1), 1) := by decide +kernel
theorem dX_finishJob_12 : decode prog_1_method_20_code 12 = .ok (.if_icmp .ne 4, 3) := by decide +kernel
theorem dX_finishJob_15 : decode prog_1_method_20_code 15 = .ok (.return_, 1) := by decide +kernel
theorem dX_finishJob_16 : decode prog_1_method_20_code 16 = .ok (.aload_n 0, 1) := by decide +kernel
theorem dX_finishJob_17 : decode prog_1_method_20_code 17 = .ok (.aload_n 0, 1) := by decide +kernel
theorem dX_finishJob_18 : decode prog_1_method_20_code 18 = .ok (.getfield 25, 3) := by decide +kernel
theorem dX_finishJob_21 : decode prog_1_method_20_code 21 = .ok (.iload_n 2, 1) := by decide +kernel
theorem dX_finishJob_22 : decode prog_1_method_20_code 22 = .ok (.aaload, 1) := by decide +kernel
theorem dX_finishJob_23 : decode prog_1_method_20_code 23 = .ok (.invokevirtual 196, 3) := by decide +kernel
theorem dX_finishJob_26 : decode prog_1_method_20_code 26 = .ok (.aload_n 0, 1) := by decide +kernel
theorem dX_finishJob_27 : decode prog_1_method_20_code 27 = .ok (.getfield 34, 3) := by decide +kernel
theorem dX_finishJob_30 : decode prog_1_method_20_code 30 = .ok (.aload_n 0, 1) := by decide +kernel
theorem dX_finishJob_31 : decode prog_1_method_20_code 31 = .ok (.getfield 38, 3) := by decide +kernel
theorem dX_finishJob_34 : decode prog_1_method_20_code 34 = .ok (.iconst 3, 1) := by decide +kernel
theorem dX_finishJob_35 : decode prog_1_method_20_code 35 = .ok (.iaload, 1) := by decide +kernel
theorem dX_finishJob_36 : decode prog_1_method_20_code 36 = .ok (.invokestatic 141, 3) := by decide +kernel
theorem dX_finishJob_39 : decode prog_1_method_20_code 39 = .ok (.bipush 64, 2) := by decide +kernel
theorem dX_finishJob_41 : decode prog_1_method_20_code 41 = .ok (.iload_n 1, 1) := by decide +kernel
theorem dX_finishJob_42 : decode prog_1_method_20_code 42 = .ok (.imul, 1) := by decide +kernel
theorem dX_finishJob_43 : decode prog_1_method_20_code 43 = .ok (.iload_n 2, 1) := by decide +kernel
theorem dX_finishJob_44 : decode prog_1_method_20_code 44 = .ok (.iadd, 1) := by decide +kernel
theorem dX_finishJob_45 : decode prog_1_method_20_code 45 = .ok (.iastore, 1) := by decide +kernel
theorem dX_finishJob_46 : decode prog_1_method_20_code 46 = .ok (.aload_n 0, 1) := by decide +kernel
theorem dX_finishJob_47 : decode prog_1_method_20_code 47 = .ok (.getfield 38, 3) := by decide +kernel
theorem dX_finishJob_50 : decode prog_1_method_20_code 50 = .ok (.iconst 3, 1) := by decide +kernel
theorem dX_finishJob_51 : decode prog_1_method_20_code 51 = .ok (.dup2, 1) := by decide +kernel
theorem dX_finishJob_52 : decode prog_1_method_20_code 52 = .ok (.iaload, 1) := by decide +kernel
theorem dX_finishJob_53 : decode prog_1_method_20_code 53 = .ok (.iconst 1, 1) := by decide +kernel
theorem dX_finishJob_54 : decode prog_1_method_20_code 54 = .ok (.iadd, 1) := by decide +kernel
theorem dX_finishJob_55 : decode prog_1_method_20_code 55 = .ok (.iastore, 1) := by decide +kernel
theorem dX_finishJob_56 : decode prog_1_method_20_code 56 = .ok (.return_, 1) := by decide +kernel
theorem dX_beginJob_0 : decode prog_1_method_21_code 0 = .ok (.aload_n 0, 1) := by decide +kernel
theorem dX_beginJob_1 : decode prog_1_method_21_code 1 = .ok (.getfield 18, 3) := by decide +kernel
theorem dX_beginJob_4 : decode prog_1_method_21_code 4 = .ok (.iload_n 1, 1) := by decide +kernel
theorem dX_beginJob_5 : decode prog_1_method_21_code 5 = .ok (.aaload, 1) := by decide +kernel
theorem dX_beginJob_6 : decode prog_1_method_21_code 6 = .ok (.getfield 120, 3) := by decide +kernel
theorem dX_beginJob_9 : decode prog_1_method_21_code 9 = .ok (.invokevirtual 100, 3) := by decide +kernel
theorem dX_beginJob_12 : decode prog_1_method_21_code 12 = .ok (.istore_n 2, 1) := by decide +kernel
theorem dX_beginJob_13 : decode prog_1_method_21_code 13 = .ok (.iload_n 2, 1) := by decide +kernel
theorem dX_beginJob_14 : decode prog_1_method_21_code 14 = .ok (.iconst (-1), 1) := by decide +kernel
theorem dX_beginJob_15 : decode prog_1_method_21_code 15 = .ok (.if_icmp .ne 4, 3) := by decide +kernel
theorem dX_beginJob_18 : decode prog_1_method_21_code 18 = .ok (.return_, 1) := by decide +kernel
theorem dX_beginJob_19 : decode prog_1_method_21_code 19 = .ok (.aload_n 0, 1) := by decide +kernel
theorem dX_beginJob_20 : decode prog_1_method_21_code 20 = .ok (.getfield 18, 3) := by decide +kernel
theorem dX_beginJob_23 : decode prog_1_method_21_code 23 = .ok (.iload_n 1, 1) := by decide +kernel
theorem dX_beginJob_24 : decode prog_1_method_21_code 24 = .ok (.aaload, 1) := by decide +kernel
theorem dX_beginJob_25 : decode prog_1_method_21_code 25 = .ok (.iload_n 2, 1) := by decide +kernel
theorem dX_beginJob_26 : decode prog_1_method_21_code 26 = .ok (.putfield 123, 3) := by decide +kernel
theorem dX_beginJob_29 : decode prog_1_method_21_code 29 = .ok (.aload_n 0, 1) := by decide +kernel
theorem dX_beginJob_30 : decode prog_1_method_21_code 30 = .ok (.getfield 18, 3) := by decide +kernel
theorem dX_beginJob_33 : decode prog_1_method_21_code 33 = .ok (.iload_n 1, 1) := by decide +kernel
theorem dX_beginJob_34 : decode prog_1_method_21_code 34 = .ok (.aaload, 1) := by decide +kernel
theorem dX_beginJob_35 : decode prog_1_method_21_code 35 = .ok (.getstatic 200, 3) := by decide +kernel
theorem dX_beginJob_38 : decode prog_1_method_21_code 38 = .ok (.iload_n 1, 1) := by decide +kernel
theorem dX_beginJob_39 : decode prog_1_method_21_code 39 = .ok (.iaload, 1) := by decide +kernel
theorem dX_beginJob_40 : decode prog_1_method_21_code 40 = .ok (.iconst 1, 1) := by decide +kernel
theorem dX_beginJob_41 : decode prog_1_method_21_code 41 = .ok (.aload_n 0, 1) := by decide +kernel
theorem dX_beginJob_42 : decode prog_1_method_21_code 42 = .ok (.getfield 25, 3) := by decide +kernel
theorem dX_beginJob_45 : decode prog_1_method_21_code 45 = .ok (.iload_n 2, 1) := by decide +kernel
theorem dX_beginJob_46 : decode prog_1_method_21_code 46 = .ok (.aaload, 1) := by decide +kernel
theorem dX_beginJob_47 : decode prog_1_method_21_code 47 = .ok (.invokevirtual 203, 3) := by decide +kernel
theorem dX_beginJob_50 : decode prog_1_method_21_code 50 = .ok (.getstatic 205, 3) := by decide +kernel
theorem dX_beginJob_53 : decode prog_1_method_21_code 53 = .ok (.iload_n 1, 1) := by decide +kernel
theorem dX_beginJob_54 : decode prog_1_method_21_code 54 = .ok (.iaload, 1) := by decide +kernel
theorem dX_beginJob_55 : decode prog_1_method_21_code 55 = .ok (.ishr, 1) := by decide +kernel
theorem dX_beginJob_56 : decode prog_1_method_21_code 56 = .ok (.invokestatic 208, 3) := by decide +kernel
theorem dX_beginJob_59 : decode prog_1_method_21_code 59 = .ok (.iadd, 1) := by decide +kernel
theorem dX_beginJob_60 : decode prog_1_method_21_code 60 = .ok (.putfield 126, 3) := by decide +kernel
theorem dX_beginJob_63 : decode prog_1_method_21_code 63 = .ok (.return_, 1) := by decide +kernel
theorem dX_carryOut_0 : decode prog_1_method_22_code 0 = .ok (.lconst 0, 1) := by decide +kernel
theorem dX_carryOut_1 : decode prog_1_method_22_code 1 = .ok (.lstore_n 2, 1) := by decide +kernel
theorem dX_carryOut_2 : decode prog_1_method_22_code 2 = .ok (.aload_n 1, 1) := by decide +kernel
theorem dX_carryOut_3 : decode prog_1_method_22_code 3 = .ok (.invokevirtual 114, 3) := by decide +kernel
theorem dX_carryOut_6 : decode prog_1_method_22_code 6 = .ok (.ifCond .ne 24, 3) := by decide +kernel
theorem dX_carryOut_9 : decode prog_1_method_22_code 9 = .ok (.aload_n 1, 1) := by decide +kernel
theorem dX_carryOut_10 : decode prog_1_method_22_code 10 = .ok (.getfield 111, 3) := by decide +kernel
theorem dX_carryOut_13 : decode prog_1_method_22_code 13 = .ok (.ifCond .ne 12, 3) := by decide +kernel
theorem dX_carryOut_16 : decode prog_1_method_22_code 16 = .ok (.aload_n 0, 1) := by decide +kernel
theorem dX_carryOut_17 : decode prog_1_method_22_code 17 = .ok (.aload_n 1, 1) := by decide +kernel
theorem dX_carryOut_18 : decode prog_1_method_22_code 18 = .ok (.invokevirtual 214, 3) := by decide +kernel
theorem dX_carryOut_21 : decode prog_1_method_22_code 21 = .ok (.lstore_n 2, 1) := by decide +kernel
theorem dX_carryOut_22 : decode prog_1_method_22_code 22 = .ok (.goto 8, 3) := by decide +kernel
theorem dX_carryOut_25 : decode prog_1_method_22_code 25 = .ok (.aload_n 0, 1) := by decide +kernel
theorem dX_carryOut_26 : decode prog_1_method_22_code 26 = .ok (.aload_n 1, 1) := by decide +kernel
theorem dX_carryOut_27 : decode prog_1_method_22_code 27 = .ok (.invokevirtual 218, 3) := by decide +kernel
theorem dX_carryOut_30 : decode prog_1_method_22_code 30 = .ok (.aload_n 1, 1) := by decide +kernel
theorem dX_carryOut_31 : decode prog_1_method_22_code 31 = .ok (.lload_n 2, 1) := by decide +kernel
theorem dX_carryOut_32 : decode prog_1_method_22_code 32 = .ok (.putfield 108, 3) := by decide +kernel
theorem dX_carryOut_35 : decode prog_1_method_22_code 35 = .ok (.return_, 1) := by decide +kernel
theorem dX_readBytes_0 : decode prog_1_method_23_code 0 = .ok (.lconst 0, 1) := by decide +kernel
theorem dX_readBytes_1 : decode prog_1_method_23_code 1 = .ok (.lstore_n 2, 1) := by decide +kernel
theorem dX_readBytes_2 : decode prog_1_method_23_code 2 = .ok (.aload_n 1, 1) := by decide +kernel
theorem dX_readBytes_3 : decode prog_1_method_23_code 3 = .ok (.invokevirtual 203, 3) := by decide +kernel
theorem dX_readBytes_6 : decode prog_1_method_23_code 6 = .ok (.iconst 1, 1) := by decide +kernel
theorem dX_readBytes_7 : decode prog_1_method_23_code 7 = .ok (.isub, 1) := by decide +kernel
theorem dX_readBytes_8 : decode prog_1_method_23_code 8 = .ok (.istore 4, 2) := by decide +kernel
theorem dX_readBytes_10 : decode prog_1_method_23_code 10 = .ok (.iload 4, 2) := by decide +kernel
theorem dX_readBytes_12 : decode prog_1_method_23_code 12 = .ok (.ifCond .lt 32, 3) := by decide +kernel
theorem dX_readBytes_15 : decode prog_1_method_23_code 15 = .ok (.lload_n 2, 1) := by decide +kernel
theorem dX_readBytes_16 : decode prog_1_method_23_code 16 = .ok (.bipush 8, 2) := by decide +kernel
theorem dX_readBytes_18 : decode prog_1_method_23_code 18 = .ok (.lshl, 1) := by decide +kernel
theorem dX_readBytes_19 : decode prog_1_method_23_code 19 = .ok (.aload_n 0, 1) := by decide +kernel
theorem dX_readBytes_20 : decode prog_1_method_23_code 20 = .ok (.getfield 30, 3) := by decide +kernel
theorem dX_readBytes_23 : decode prog_1_method_23_code 23 = .ok (.aload_n 1, 1) := by decide +kernel
theorem dX_readBytes_24 : decode prog_1_method_23_code 24 = .ok (.getfield 221, 3) := by decide +kernel
theorem dX_readBytes_27 : decode prog_1_method_23_code 27 = .ok (.iload 4, 2) := by decide +kernel
theorem dX_readBytes_29 : decode prog_1_method_23_code 29 = .ok (.iadd, 1) := by decide +kernel
theorem dX_readBytes_30 : decode prog_1_method_23_code 30 = .ok (.baload, 1) := by decide +kernel
theorem dX_readBytes_31 : decode prog_1_method_23_code 31 = .ok (.sipush 255, 3) := by decide +kernel
theorem dX_readBytes_34 : decode prog_1_method_23_code 34 = .ok (.iand, 1) := by decide +kernel
theorem dX_readBytes_35 : decode prog_1_method_23_code 35 = .ok (.i2l, 1) := by decide +kernel
theorem dX_readBytes_36 : decode prog_1_method_23_code 36 = .ok (.lor, 1) := by decide +kernel
theorem dX_readBytes_37 : decode prog_1_method_23_code 37 = .ok (.lstore_n 2, 1) := by decide +kernel
theorem dX_readBytes_38 : decode prog_1_method_23_code 38 = .ok (.iinc 4 (-1), 3) := by decide +kernel
theorem dX_readBytes_41 : decode prog_1_method_23_code 41 = .ok (.goto (-31), 3) := by decide +kernel
theorem dX_readBytes_44 : decode prog_1_method_23_code 44 = .ok (.lload_n 2, 1) := by decide +kernel
theorem dX_readBytes_45 : decode prog_1_method_23_code 45 = .ok (.lreturn, 1) := by decide +kernel
theorem dX_writeBytes_0 : decode prog_1_method_24_code 0 = .ok (.iconst 0, 1) := by decide +kernel
theorem dX_writeBytes_1 : decode prog_1_method_24_code 1 = .ok (.istore_n 2, 1) := by decide +kernel
theorem dX_writeBytes_2 : decode prog_1_method_24_code 2 = .ok (.iload_n 2, 1) := by decide +kernel
theorem dX_writeBytes_3 : decode prog_1_method_24_code 3 = .ok (.aload_n 1, 1) := by decide +kernel
theorem dX_writeBytes_4 : decode prog_1_method_24_code 4 = .ok (.invokevirtual 203, 3) := by decide +kernel
theorem dX_writeBytes_7 : decode prog_1_method_24_code 7 = .ok (.if_icmp .ge 39, 3) := by decide +kernel
theorem dX_writeBytes_10 : decode prog_1_method_24_code 10 = .ok (.aload_n 1, 1) := by decide +kernel
theorem dX_writeBytes_11 : decode prog_1_method_24_code 11 = .ok (.iload_n 2, 1) := by decide +kernel
theorem dX_writeBytes_12 : decode prog_1_method_24_code 12 = .ok (.invokevirtual 224, 3) := by decide +kernel
theorem dX_writeBytes_15 : decode prog_1_method_24_code 15 = .ok (.ifCond .eq 25, 3) := by decide +kernel
theorem dX_writeBytes_18 : decode prog_1_method_24_code 18 = .ok (.aload_n 0, 1) := by decide +kernel
theorem dX_writeBytes_19 : decode prog_1_method_24_code 19 = .ok (.getfield 30, 3) := by decide +kernel
theorem dX_writeBytes_22 : decode prog_1_method_24_code 22 = .ok (.aload_n 1, 1) := by decide +kernel
theorem dX_writeBytes_23 : decode prog_1_method_24_code 23 = .ok (.getfield 221, 3) := by decide +kernel
theorem dX_writeBytes_26 : decode prog_1_method_24_code 26 = .ok (.iload_n 2, 1) := by decide +kernel
theorem dX_writeBytes_27 : decode prog_1_method_24_code 27 = .ok (.iadd, 1) := by decide +kernel
theorem dX_writeBytes_28 : decode prog_1_method_24_code 28 = .ok (.aload_n 1, 1) := by decide +kernel
theorem dX_writeBytes_29 : decode prog_1_method_24_code 29 = .ok (.getfield 108, 3) := by decide +kernel
theorem dX_writeBytes_32 : decode prog_1_method_24_code 32 = .ok (.bipush 8, 2) := by decide +kernel
theorem dX_writeBytes_34 : decode prog_1_method_24_code 34 = .ok (.iload_n 2, 1) := by decide +kernel
theorem dX_writeBytes_35 : decode prog_1_method_24_code 35 = .ok (.imul, 1) := by decide +kernel
theorem dX_writeBytes_36 : decode prog_1_method_24_code 36 = .ok (.lshr, 1) := by decide +kernel
theorem dX_writeBytes_37 : decode prog_1_method_24_code 37 = .ok (.l2i, 1) := by decide +kernel
theorem dX_writeBytes_38 : decode prog_1_method_24_code 38 = .ok (.i2b, 1) := by decide +kernel
theorem dX_writeBytes_39 : decode prog_1_method_24_code 39 = .ok (.bastore, 1) := by decide +kernel
theorem dX_writeBytes_40 : decode prog_1_method_24_code 40 = .ok (.iinc 2 1, 3) := by decide +kernel
theorem dX_writeBytes_43 : decode prog_1_method_24_code 43 = .ok (.goto (-41), 3) := by decide +kernel
theorem dX_writeBytes_46 : decode prog_1_method_24_code 46 = .ok (.return_, 1) := by decide +kernel
theorem dX_moveRequests_0 : decode prog_1_method_25_code 0 = .ok (.iconst 0, 1) := by decide +kernel
theorem dX_moveRequests_1 : decode prog_1_method_25_code 1 = .ok (.istore_n 1, 1) := by decide +kernel
theorem dX_moveRequests_2 : decode prog_1_method_25_code 2 = .ok (.iconst 0, 1) := by decide +kernel
theorem dX_moveRequests_3 : decode prog_1_method_25_code 3 = .ok (.istore_n 2, 1) := by decide +kernel
theorem dX_moveRequests_4 : decode prog_1_method_25_code 4 = .ok (.iload_n 2, 1) := by decide +kernel
theorem dX_moveRequests_5 : decode prog_1_method_25_code 5 = .ok (.iconst 4, 1) := by decide +kernel
theorem dX_moveRequests_6 : decode prog_1_method_25_code 6 = .ok (.if_icmp .ge 28, 3) := by decide +kernel
theorem dX_moveRequests_9 : decode prog_1_method_25_code 9 = .ok (.aload_n 0, 1) := by decide +kernel
theorem dX_moveRequests_10 : decode prog_1_method_25_code 10 = .ok (.iload_n 2, 1) := by decide +kernel
theorem dX_moveRequests_11 : decode prog_1_method_25_code 11 = .ok (.invokevirtual 227, 3) := by decide +kernel
theorem dX_moveRequests_14 : decode prog_1_method_25_code 14 = .ok (.istore_n 3, 1) := by decide +kernel
theorem dX_moveRequests_15 : decode prog_1_method_25_code 15 = .ok (.iload_n 3, 1) := by decide +kernel
theorem dX_moveRequests_16 : decode prog_1_method_25_code 16 = .ok (.iconst (-1), 1) := by decide +kernel
theorem dX_moveRequests_17 : decode prog_1_method_25_code 17 = .ok (.if_icmp .eq 11, 3) := by decide +kernel
theorem dX_moveRequests_20 : decode prog_1_method_25_code 20 = .ok (.aload_n 0, 1) := by decide +kernel
theorem dX_moveRequests_21 : decode prog_1_method_25_code 21 = .ok (.iload_n 3, 1) := by decide +kernel
theorem dX_moveRequests_22 : decode prog_1_method_25_code 22 = .ok (.iload_n 2, 1) := by decide +kernel
theorem dX_moveRequests_23 : decode prog_1_method_25_code 23 = .ok (.invokevirtual 230, 3) := by decide +kernel
theorem dX_moveRequests_26 : decode prog_1_method_25_code 26 = .ok (.iconst 1, 1) := by decide +kernel
theorem dX_moveRequests_27 : decode prog_1_method_25_code 27 = .ok (.istore_n 1, 1) := by decide +kernel
theorem dX_moveRequests_28 : decode prog_1_method_25_code 28 = .ok (.iinc 2 1, 3) := by decide +kernel
theorem dX_moveRequests_31 : decode prog_1_method_25_code 31 = .ok (.goto (-27), 3) := by decide +kernel
theorem dX_moveRequests_34 : decode prog_1_method_25_code 34 = .ok (.iload_n 1, 1) := by decide +kernel
theorem dX_moveRequests_35 : decode prog_1_method_25_code 35 = .ok (.ireturn, 1) := by decide +kernel
theorem dX_nextRequestingMaster_0 : decode prog_1_method_26_code 0 = .ok (.aload_n 0, 1) := by decide +kernel
theorem dX_nextRequestingMaster_1 : decode prog_1_method_26_code 1 = .ok (.getfield 18, 3) := by decide +kernel
theorem dX_nextRequestingMaster_4 : decode prog_1_method_26_code 4 = .ok (.iload_n 1, 1) := by decide +kernel
theorem dX_nextRequestingMaster_5 : decode prog_1_method_26_code 5 = .ok (.aaload, 1) := by decide +kernel
theorem dX_nextRequestingMaster_6 : decode prog_1_method_26_code 6 = .ok (.invokevirtual 233, 3) := by decide +kernel
theorem dX_nextRequestingMaster_9 : decode prog_1_method_26_code 9 = .ok (.ifCond .ne 5, 3) := by decide +kernel
theorem dX_nextRequestingMaster_12 : decode prog_1_method_26_code 12 = .ok (.iconst (-1), 1) := by decide +kernel
theorem dX_nextRequestingMaster_13 : decode prog_1_method_26_code 13 = .ok (.ireturn, 1) := by decide +kernel
theorem dX_nextRequestingMaster_14 : decode prog_1_method_26_code 14 = .ok (.iconst 1, 1) := by decide +kernel
theorem dX_nextRequestingMaster_15 : decode prog_1_method_26_code 15 = .ok (.istore_n 2, 1) := by decide +kernel
theorem dX_nextRequestingMaster_16 : decode prog_1_method_26_code 16 = .ok (.iload_n 2, 1) := by decide +kernel
theorem dX_nextRequestingMaster_17 : decode prog_1_method_26_code 17 = .ok (.iconst 3, 1) := by decide +kernel
theorem dX_nextRequestingMaster_18 : decode prog_1_method_26_code 18 = .ok (.if_icmp .gt 60, 3) := by decide +kernel
theorem dX_nextRequestingMaster_21 : decode prog_1_method_26_code 21 = .ok (.aload_n 0, 1) := by decide +kernel
theorem dX_nextRequestingMaster_22 : decode prog_1_method_26_code 22 = .ok (.getfield 18, 3) := by decide +kernel
theorem dX_nextRequestingMaster_25 : decode prog_1_method_26_code 25 = .ok (.iload_n 1, 1) := by decide +kernel
theorem dX_nextRequestingMaster_26 : decode prog_1_method_26_code 26 = .ok (.aaload, 1) := by decide +kernel
theorem dX_nextRequestingMaster_27 : decode prog_1_method_26_code 27 = .ok (.getfield 236, 3) := by decide +kernel
theorem dX_nextRequestingMaster_30 : decode prog_1_method_26_code 30 = .ok (.iload_n 2, 1) := by decide +kernel
theorem dX_nextRequestingMaster_31 : decode prog_1_method_26_code 31 = .ok (.iconst 3, 1) := by decide +kernel
theorem dX_nextRequestingMaster_32 : decode prog_1_method_26_code 32 = .ok (.invokestatic 166, 3) := by decide +kernel
theorem dX_nextRequestingMaster_35 : decode prog_1_method_26_code 35 = .ok (.istore_n 3, 1) := by decide +kernel
theorem dX_nextRequestingMaster_36 : decode prog_1_method_26_code 36 = .ok (.aload_n 0, 1) := by decide +kernel
theorem dX_nextRequestingMaster_37 : decode prog_1_method_26_code 37 = .ok (.getfield 11, 3) := by decide +kernel
theorem dX_nextRequestingMaster_40 : decode prog_1_method_26_code 40 = .ok (.iload_n 3, 1) := by decide +kernel
theorem dX_nextRequestingMaster_41 : decode prog_1_method_26_code 41 = .ok (.aaload, 1) := by decide +kernel
theorem dX_nextRequestingMaster_42 : decode prog_1_method_26_code 42 = .ok (.getfield 59, 3) := by decide +kernel
theorem dX_nextRequestingMaster_45 : decode prog_1_method_26_code 45 = .ok (.invokevirtual 170, 3) := by decide +kernel
theorem dX_nextRequestingMaster_48 : decode prog_1_method_26_code 48 = .ok (.istore 4, 2) := by decide +kernel
theorem dX_nextRequestingMaster_50 : decode prog_1_method_26_code 50 = .ok (.iload 4, 2) := by decide +kernel
theorem dX_nextRequestingMaster_52 : decode prog_1_method_26_code 52 = .ok (.iconst (-1), 1) := by decide +kernel
theorem dX_nextRequestingMaster_53 : decode prog_1_method_26_code 53 = .ok (.if_icmp .eq 19, 3) := by decide +kernel
theorem dX_nextRequestingMaster_56 : decode prog_1_method_26_code 56 = .ok (.aload_n 0, 1) := by decide +kernel
theorem dX_nextRequestingMaster_57 : decode prog_1_method_26_code 57 = .ok (.getfield 25, 3) := by decide +kernel
theorem dX_nextRequestingMaster_60 : decode prog_1_method_26_code 60 = .ok (.iload 4, 2) := by decide +kernel
theorem dX_nextRequestingMaster_62 : decode prog_1_method_26_code 62 = .ok (.aaload, 1) := by decide +kernel
theorem dX_nextRequestingMaster_63 : decode prog_1_method_26_code 63 = .ok (.iload_n 1, 1) := by decide +kernel
theorem dX_nextRequestingMaster_64 : decode prog_1_method_26_code 64 = .ok (.invokevirtual 239, 3) := by decide +kernel
theorem dX_nextRequestingMaster_67 : decode prog_1_method_26_code 67 = .ok (.ifCond .eq 5, 3) := by decide +kernel
theorem dX_nextRequestingMaster_70 : decode prog_1_method_26_code 70 = .ok (.iload_n 3, 1) := by decide +kernel
theorem dX_nextRequestingMaster_71 : decode prog_1_method_26_code 71 = .ok (.ireturn, 1) := by decide +kernel
theorem dX_nextRequestingMaster_72 : decode prog_1_method_26_code 72 = .ok (.iinc 2 1, 3) := by decide +kernel
theorem dX_nextRequestingMaster_75 : decode prog_1_method_26_code 75 = .ok (.goto (-59), 3) := by decide +kernel
theorem dX_nextRequestingMaster_78 : decode prog_1_method_26_code 78 = .ok (.iconst (-1), 1) := by decide +kernel
theorem dX_nextRequestingMaster_79 : decode prog_1_method_26_code 79 = .ok (.ireturn, 1) := by decide +kernel
theorem dX_moveRequest_0 : decode prog_1_method_27_code 0 = .ok (.aload_n 0, 1) := by decide +kernel
theorem dX_moveRequest_1 : decode prog_1_method_27_code 1 = .ok (.getfield 11, 3) := by decide +kernel
theorem dX_moveRequest_4 : decode prog_1_method_27_code 4 = .ok (.iload_n 1, 1) := by decide +kernel
theorem dX_moveRequest_5 : decode prog_1_method_27_code 5 = .ok (.aaload, 1) := by decide +kernel
theorem dX_moveRequest_6 : decode prog_1_method_27_code 6 = .ok (.getfield 59, 3) := by decide +kernel
theorem dX_moveRequest_9 : decode prog_1_method_27_code 9 = .ok (.invokevirtual 100, 3) := by decide +kernel
theorem dX_moveRequest_12 : decode prog_1_method_27_code 12 = .ok (.istore_n 3, 1) := by decide +kernel
theorem dX_moveRequest_13 : decode prog_1_method_27_code 13 = .ok (.aload_n 0, 1) := by decide +kernel
theorem dX_moveRequest_14 : decode prog_1_method_27_code 14 = .ok (.getfield 18, 3) := by decide +kernel
theorem dX_moveRequest_17 : decode prog_1_method_27_code 17 = .ok (.iload_n 2, 1) := by decide +kernel
theorem dX_moveRequest_18 : decode prog_1_method_27_code 18 = .ok (.aaload, 1) := by decide +kernel
theorem dX_moveRequest_19 : decode prog_1_method_27_code 19 = .ok (.iload_n 3, 1) := by decide +kernel
theorem dX_moveRequest_20 : decode prog_1_method_27_code 20 = .ok (.invokevirtual 242, 3) := by decide +kernel
theorem dX_moveRequest_23 : decode prog_1_method_27_code 23 = .ok (.aload_n 0, 1) := by decide +kernel
theorem dX_moveRequest_24 : decode prog_1_method_27_code 24 = .ok (.getfield 18, 3) := by decide +kernel
theorem dX_moveRequest_27 : decode prog_1_method_27_code 27 = .ok (.iload_n 2, 1) := by decide +kernel
theorem dX_moveRequest_28 : decode prog_1_method_27_code 28 = .ok (.aaload, 1) := by decide +kernel
theorem dX_moveRequest_29 : decode prog_1_method_27_code 29 = .ok (.getfield 120, 3) := by decide +kernel
theorem dX_moveRequest_32 : decode prog_1_method_27_code 32 = .ok (.iload_n 3, 1) := by decide +kernel
theorem dX_moveRequest_33 : decode prog_1_method_27_code 33 = .ok (.invokevirtual 73, 3) := by decide +kernel
theorem dX_moveRequest_36 : decode prog_1_method_27_code 36 = .ok (.aload_n 0, 1) := by decide +kernel
theorem dX_moveRequest_37 : decode prog_1_method_27_code 37 = .ok (.getfield 18, 3) := by decide +kernel
theorem dX_moveRequest_40 : decode prog_1_method_27_code 40 = .ok (.iload_n 2, 1) := by decide +kernel
theorem dX_moveRequest_41 : decode prog_1_method_27_code 41 = .ok (.aaload, 1) := by decide +kernel
theorem dX_moveRequest_42 : decode prog_1_method_27_code 42 = .ok (.iload_n 1, 1) := by decide +kernel
theorem dX_moveRequest_43 : decode prog_1_method_27_code 43 = .ok (.putfield 236, 3) := by decide +kernel
theorem dX_moveRequest_46 : decode prog_1_method_27_code 46 = .ok (.aload_n 0, 1) := by decide +kernel
theorem dX_moveRequest_47 : decode prog_1_method_27_code 47 = .ok (.getfield 38, 3) := by decide +kernel
theorem dX_moveRequest_50 : decode prog_1_method_27_code 50 = .ok (.iconst 2, 1) := by decide +kernel
theorem dX_moveRequest_51 : decode prog_1_method_27_code 51 = .ok (.dup2, 1) := by decide +kernel
theorem dX_moveRequest_52 : decode prog_1_method_27_code 52 = .ok (.iaload, 1) := by decide +kernel
theorem dX_moveRequest_53 : decode prog_1_method_27_code 53 = .ok (.iconst 1, 1) := by decide +kernel
theorem dX_moveRequest_54 : decode prog_1_method_27_code 54 = .ok (.iadd, 1) := by decide +kernel
theorem dX_moveRequest_55 : decode prog_1_method_27_code 55 = .ok (.iastore, 1) := by decide +kernel
theorem dX_moveRequest_56 : decode prog_1_method_27_code 56 = .ok (.return_, 1) := by decide +kernel
theorem dX_isBelow_0 : decode prog_1_method_28_code 0 = .ok (.iload_n 0, 1) := by decide +kernel
theorem dX_isBelow_1 : decode prog_1_method_28_code 1 = .ok (.ifCond .lt 12, 3) := by decide +kernel
theorem dX_isBelow_4 : decode prog_1_method_28_code 4 = .ok (.iload_n 0, 1) := by decide +kernel
theorem dX_isBelow_5 : decode prog_1_method_28_code 5 = .ok (.iload_n 1, 1) := by decide +kernel
theorem dX_isBelow_6 : decode prog_1_method_28_code 6 = .ok (.if_icmp .ge 7, 3) := by decide +kernel
theorem dX_isBelow_9 : decode prog_1_method_28_code 9 = .ok (.iconst 1, 1) := by decide +kernel
theorem dX_isBelow_10 : decode prog_1_method_28_code 10 = .ok (.goto 4, 3) := by decide +kernel
theorem dX_isBelow_13 : decode prog_1_method_28_code 13 = .ok (.iconst 0, 1) := by decide +kernel
theorem dX_isBelow_14 : decode prog_1_method_28_code 14 = .ok (.ireturn, 1) := by decide +kernel
theorem dX_isAligned_0 : decode prog_1_method_29_code 0 = .ok (.iload_n 1, 1) := by decide +kernel
theorem dX_isAligned_1 : decode prog_1_method_29_code 1 = .ok (.iconst 4, 1) := by decide +kernel
theorem dX_isAligned_2 : decode prog_1_method_29_code 2 = .ok (.invokestatic 45, 3) := by decide +kernel
theorem dX_isAligned_5 : decode prog_1_method_29_code 5 = .ok (.ifCond .eq 27, 3) := by decide +kernel
theorem dX_isAligned_8 : decode prog_1_method_29_code 8 = .ok (.iload_n 0, 1) := by decide +kernel
theorem dX_isAligned_9 : decode prog_1_method_29_code 9 = .ok (.sipush 1024, 3) := by decide +kernel
theorem dX_isAligned_12 : decode prog_1_method_29_code 12 = .ok (.invokestatic 45, 3) := by decide +kernel
theorem dX_isAligned_15 : decode prog_1_method_29_code 15 = .ok (.ifCond .eq 17, 3) := by decide +kernel
theorem dX_isAligned_18 : decode prog_1_method_29_code 18 = .ok (.iload_n 0, 1) := by decide +kernel
theorem dX_isAligned_19 : decode prog_1_method_29_code 19 = .ok (.iconst 1, 1) := by decide +kernel
theorem dX_isAligned_20 : decode prog_1_method_29_code 20 = .ok (.iload_n 1, 1) := by decide +kernel
theorem dX_isAligned_21 : decode prog_1_method_29_code 21 = .ok (.ishl, 1) := by decide +kernel
theorem dX_isAligned_22 : decode prog_1_method_29_code 22 = .ok (.iconst 1, 1) := by decide +kernel
theorem dX_isAligned_23 : decode prog_1_method_29_code 23 = .ok (.isub, 1) := by decide +kernel
theorem dX_isAligned_24 : decode prog_1_method_29_code 24 = .ok (.iand, 1) := by decide +kernel
theorem dX_isAligned_25 : decode prog_1_method_29_code 25 = .ok (.ifCond .ne 7, 3) := by decide +kernel
theorem dX_isAligned_28 : decode prog_1_method_29_code 28 = .ok (.iconst 1, 1) := by decide +kernel
theorem dX_isAligned_29 : decode prog_1_method_29_code 29 = .ok (.goto 4, 3) := by decide +kernel
theorem dX_isAligned_32 : decode prog_1_method_29_code 32 = .ok (.iconst 0, 1) := by decide +kernel
theorem dX_isAligned_33 : decode prog_1_method_29_code 33 = .ok (.ireturn, 1) := by decide +kernel
theorem dX_masterOf_0 : decode prog_1_method_30_code 0 = .ok (.iload_n 0, 1) := by decide +kernel
theorem dX_masterOf_1 : decode prog_1_method_30_code 1 = .ok (.iconst 3, 1) := by decide +kernel
theorem dX_masterOf_2 : decode prog_1_method_30_code 2 = .ok (.ishr, 1) := by decide +kernel
theorem dX_masterOf_3 : decode prog_1_method_30_code 3 = .ok (.ireturn, 1) := by decide +kernel
theorem dX_sourceOf_0 : decode prog_1_method_31_code 0 = .ok (.iload_n 0, 1) := by decide +kernel
theorem dX_sourceOf_1 : decode prog_1_method_31_code 1 = .ok (.bipush 7, 2) := by decide +kernel
theorem dX_sourceOf_3 : decode prog_1_method_31_code 3 = .ok (.iand, 1) := by decide +kernel
theorem dX_sourceOf_4 : decode prog_1_method_31_code 4 = .ok (.ireturn, 1) := by decide +kernel
theorem dX_logPlace_0 : decode prog_1_method_32_code 0 = .ok (.iload_n 0, 1) := by decide +kernel
theorem dX_logPlace_1 : decode prog_1_method_32_code 1 = .ok (.bipush 31, 2) := by decide +kernel
theorem dX_logPlace_3 : decode prog_1_method_32_code 3 = .ok (.iand, 1) := by decide +kernel
theorem dX_logPlace_4 : decode prog_1_method_32_code 4 = .ok (.ireturn, 1) := by decide +kernel
theorem dX_stepBehind_0 : decode prog_1_method_33_code 0 = .ok (.iload_n 0, 1) := by decide +kernel
theorem dX_stepBehind_1 : decode prog_1_method_33_code 1 = .ok (.iload_n 1, 1) := by decide +kernel
theorem dX_stepBehind_2 : decode prog_1_method_33_code 2 = .ok (.iadd, 1) := by decide +kernel
theorem dX_stepBehind_3 : decode prog_1_method_33_code 3 = .ok (.istore_n 3, 1) := by decide +kernel
theorem dX_stepBehind_4 : decode prog_1_method_33_code 4 = .ok (.iload_n 3, 1) := by decide +kernel
theorem dX_stepBehind_5 : decode prog_1_method_33_code 5 = .ok (.iload_n 2, 1) := by decide +kernel
theorem dX_stepBehind_6 : decode prog_1_method_33_code 6 = .ok (.if_icmp .lt 9, 3) := by decide +kernel
theorem dX_stepBehind_9 : decode prog_1_method_33_code 9 = .ok (.iload_n 3, 1) := by decide +kernel
theorem dX_stepBehind_10 : decode prog_1_method_33_code 10 = .ok (.iload_n 2, 1) := by decide +kernel
theorem dX_stepBehind_11 : decode prog_1_method_33_code 11 = .ok (.isub, 1) := by decide +kernel
theorem dX_stepBehind_12 : decode prog_1_method_33_code 12 = .ok (.goto 4, 3) := by decide +kernel
theorem dX_stepBehind_15 : decode prog_1_method_33_code 15 = .ok (.iload_n 3, 1) := by decide +kernel
theorem dX_stepBehind_16 : decode prog_1_method_33_code 16 = .ok (.ireturn, 1) := by decide +kernel
