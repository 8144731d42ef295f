theorem dR_init_0 : decode prog_7_method_1_code 0 = .ok (.aload_n 0, 1) := by decide +kernel
theorem dR_init_1 : decode prog_7_method_1_code 1 = .ok (.invokespecial 1, 3) := by decide +kernel
theorem dR_init_4 : decode prog_7_method_1_code 4 = .ok (.aload_n 0, 1) := by decide +kernel
theorem dR_init_5 : decode prog_7_method_1_code 5 = .ok (.bipush 24, 2) := by decide +kernel
theorem dR_init_7 : decode prog_7_method_1_code 7 = .ok (.newarray .int, 2) := by decide +kernel
theorem dR_init_9 : decode prog_7_method_1_code 9 = .ok (.putfield 7, 3) := by decide +kernel
theorem dR_init_12 : decode prog_7_method_1_code 12 = .ok (.aload_n 0, 1) := by decide +kernel
theorem dR_init_13 : decode prog_7_method_1_code 13 = .ok (.bipush 24, 2) := by decide +kernel
theorem dR_init_15 : decode prog_7_method_1_code 15 = .ok (.newarray .int, 2) := by decide +kernel
theorem dR_init_17 : decode prog_7_method_1_code 17 = .ok (.putfield 13, 3) := by decide +kernel
theorem dR_init_20 : decode prog_7_method_1_code 20 = .ok (.aload_n 0, 1) := by decide +kernel
theorem dR_init_21 : decode prog_7_method_1_code 21 = .ok (.bipush 24, 2) := by decide +kernel
theorem dR_init_23 : decode prog_7_method_1_code 23 = .ok (.newarray .int, 2) := by decide +kernel
theorem dR_init_25 : decode prog_7_method_1_code 25 = .ok (.putfield 16, 3) := by decide +kernel
theorem dR_init_28 : decode prog_7_method_1_code 28 = .ok (.aload_n 0, 1) := by decide +kernel
theorem dR_init_29 : decode prog_7_method_1_code 29 = .ok (.bipush 24, 2) := by decide +kernel
theorem dR_init_31 : decode prog_7_method_1_code 31 = .ok (.newarray .int, 2) := by decide +kernel
theorem dR_init_33 : decode prog_7_method_1_code 33 = .ok (.putfield 19, 3) := by decide +kernel
theorem dR_init_36 : decode prog_7_method_1_code 36 = .ok (.aload_n 0, 1) := by decide +kernel
theorem dR_init_37 : decode prog_7_method_1_code 37 = .ok (.bipush 24, 2) := by decide +kernel
theorem dR_init_39 : decode prog_7_method_1_code 39 = .ok (.newarray .int, 2) := by decide +kernel
theorem dR_init_41 : decode prog_7_method_1_code 41 = .ok (.putfield 22, 3) := by decide +kernel
theorem dR_init_44 : decode prog_7_method_1_code 44 = .ok (.aload_n 0, 1) := by decide +kernel
theorem dR_init_45 : decode prog_7_method_1_code 45 = .ok (.bipush 24, 2) := by decide +kernel
theorem dR_init_47 : decode prog_7_method_1_code 47 = .ok (.newarray .long, 2) := by decide +kernel
theorem dR_init_49 : decode prog_7_method_1_code 49 = .ok (.putfield 25, 3) := by decide +kernel
theorem dR_init_52 : decode prog_7_method_1_code 52 = .ok (.aload_n 0, 1) := by decide +kernel
theorem dR_init_53 : decode prog_7_method_1_code 53 = .ok (.bipush 24, 2) := by decide +kernel
theorem dR_init_55 : decode prog_7_method_1_code 55 = .ok (.newarray .int, 2) := by decide +kernel
theorem dR_init_57 : decode prog_7_method_1_code 57 = .ok (.putfield 29, 3) := by decide +kernel
theorem dR_init_60 : decode prog_7_method_1_code 60 = .ok (.aload_n 0, 1) := by decide +kernel
theorem dR_init_61 : decode prog_7_method_1_code 61 = .ok (.bipush 24, 2) := by decide +kernel
theorem dR_init_63 : decode prog_7_method_1_code 63 = .ok (.newarray .int, 2) := by decide +kernel
theorem dR_init_65 : decode prog_7_method_1_code 65 = .ok (.putfield 32, 3) := by decide +kernel
theorem dR_init_68 : decode prog_7_method_1_code 68 = .ok (.aload_n 0, 1) := by decide +kernel
theorem dR_init_69 : decode prog_7_method_1_code 69 = .ok (.iconst 3, 1) := by decide +kernel
theorem dR_init_70 : decode prog_7_method_1_code 70 = .ok (.newarray .boolean, 2) := by decide +kernel
theorem dR_init_72 : decode prog_7_method_1_code 72 = .ok (.putfield 35, 3) := by decide +kernel
theorem dR_init_75 : decode prog_7_method_1_code 75 = .ok (.aload_n 0, 1) := by decide +kernel
theorem dR_init_76 : decode prog_7_method_1_code 76 = .ok (.iconst 3, 1) := by decide +kernel
theorem dR_init_77 : decode prog_7_method_1_code 77 = .ok (.newarray .int, 2) := by decide +kernel
theorem dR_init_79 : decode prog_7_method_1_code 79 = .ok (.putfield 39, 3) := by decide +kernel
theorem dR_init_82 : decode prog_7_method_1_code 82 = .ok (.aload_n 0, 1) := by decide +kernel
theorem dR_init_83 : decode prog_7_method_1_code 83 = .ok (.iconst 4, 1) := by decide +kernel
theorem dR_init_84 : decode prog_7_method_1_code 84 = .ok (.newarray .int, 2) := by decide +kernel
theorem dR_init_86 : decode prog_7_method_1_code 86 = .ok (.putfield 42, 3) := by decide +kernel
theorem dR_init_89 : decode prog_7_method_1_code 89 = .ok (.aload_n 0, 1) := by decide +kernel
theorem dR_init_90 : decode prog_7_method_1_code 90 = .ok (.iconst 4, 1) := by decide +kernel
theorem dR_init_91 : decode prog_7_method_1_code 91 = .ok (.newarray .int, 2) := by decide +kernel
theorem dR_init_93 : decode prog_7_method_1_code 93 = .ok (.putfield 45, 3) := by decide +kernel
theorem dR_init_96 : decode prog_7_method_1_code 96 = .ok (.aload_n 0, 1) := by decide +kernel
theorem dR_init_97 : decode prog_7_method_1_code 97 = .ok (.iconst 4, 1) := by decide +kernel
theorem dR_init_98 : decode prog_7_method_1_code 98 = .ok (.newarray .int, 2) := by decide +kernel
theorem dR_init_100 : decode prog_7_method_1_code 100 = .ok (.putfield 48, 3) := by decide +kernel
theorem dR_init_103 : decode prog_7_method_1_code 103 = .ok (.aload_n 0, 1) := by decide +kernel
theorem dR_init_104 : decode prog_7_method_1_code 104 = .ok (.sipush 640, 3) := by decide +kernel
theorem dR_init_107 : decode prog_7_method_1_code 107 = .ok (.newarray .int, 2) := by decide +kernel
theorem dR_init_109 : decode prog_7_method_1_code 109 = .ok (.putfield 51, 3) := by decide +kernel
theorem dR_init_112 : decode prog_7_method_1_code 112 = .ok (.aload_n 0, 1) := by decide +kernel
theorem dR_init_113 : decode prog_7_method_1_code 113 = .ok (.bipush 32, 2) := by decide +kernel
theorem dR_init_115 : decode prog_7_method_1_code 115 = .ok (.newarray .int, 2) := by decide +kernel
theorem dR_init_117 : decode prog_7_method_1_code 117 = .ok (.putfield 54, 3) := by decide +kernel
theorem dR_init_120 : decode prog_7_method_1_code 120 = .ok (.aload_n 0, 1) := by decide +kernel
theorem dR_init_121 : decode prog_7_method_1_code 121 = .ok (.bipush 8, 2) := by decide +kernel
theorem dR_init_123 : decode prog_7_method_1_code 123 = .ok (.newarray .int, 2) := by decide +kernel
theorem dR_init_125 : decode prog_7_method_1_code 125 = .ok (.putfield 57, 3) := by decide +kernel
theorem dR_init_128 : decode prog_7_method_1_code 128 = .ok (.return_, 1) := by decide +kernel
theorem dR_thrown_0 : decode prog_7_method_2_code 0 = .ok (.aload_n 0, 1) := by decide +kernel
theorem dR_thrown_1 : decode prog_7_method_2_code 1 = .ok (.getfield 60, 3) := by decide +kernel
theorem dR_thrown_4 : decode prog_7_method_2_code 4 = .ok (.ireturn, 1) := by decide +kernel
theorem dR_in_0 : decode prog_7_method_3_code 0 = .ok (.iload_n 0, 1) := by decide +kernel
theorem dR_in_1 : decode prog_7_method_3_code 1 = .ok (.ifCond .lt 12, 3) := by decide +kernel
theorem dR_in_4 : decode prog_7_method_3_code 4 = .ok (.iload_n 0, 1) := by decide +kernel
theorem dR_in_5 : decode prog_7_method_3_code 5 = .ok (.iload_n 1, 1) := by decide +kernel
theorem dR_in_6 : decode prog_7_method_3_code 6 = .ok (.if_icmp .ge 7, 3) := by decide +kernel
theorem dR_in_9 : decode prog_7_method_3_code 9 = .ok (.iconst 1, 1) := by decide +kernel
theorem dR_in_10 : decode prog_7_method_3_code 10 = .ok (.goto 4, 3) := by decide +kernel
theorem dR_in_13 : decode prog_7_method_3_code 13 = .ok (.iconst 0, 1) := by decide +kernel
theorem dR_in_14 : decode prog_7_method_3_code 14 = .ok (.ireturn, 1) := by decide +kernel
theorem dR_portOf_0 : decode prog_7_method_4_code 0 = .ok (.iload_n 0, 1) := by decide +kernel
theorem dR_portOf_1 : decode prog_7_method_4_code 1 = .ok (.sipush 256, 3) := by decide +kernel
theorem dR_portOf_4 : decode prog_7_method_4_code 4 = .ok (.if_icmp .ge 7, 3) := by decide +kernel
theorem dR_portOf_7 : decode prog_7_method_4_code 7 = .ok (.iconst 0, 1) := by decide +kernel
theorem dR_portOf_8 : decode prog_7_method_4_code 8 = .ok (.goto 26, 3) := by decide +kernel
theorem dR_portOf_11 : decode prog_7_method_4_code 11 = .ok (.iload_n 0, 1) := by decide +kernel
theorem dR_portOf_12 : decode prog_7_method_4_code 12 = .ok (.sipush 512, 3) := by decide +kernel
theorem dR_portOf_15 : decode prog_7_method_4_code 15 = .ok (.if_icmp .ge 7, 3) := by decide +kernel
theorem dR_portOf_18 : decode prog_7_method_4_code 18 = .ok (.iconst 1, 1) := by decide +kernel
theorem dR_portOf_19 : decode prog_7_method_4_code 19 = .ok (.goto 15, 3) := by decide +kernel
theorem dR_portOf_22 : decode prog_7_method_4_code 22 = .ok (.iload_n 0, 1) := by decide +kernel
theorem dR_portOf_23 : decode prog_7_method_4_code 23 = .ok (.sipush 640, 3) := by decide +kernel
theorem dR_portOf_26 : decode prog_7_method_4_code 26 = .ok (.if_icmp .ge 7, 3) := by decide +kernel
theorem dR_portOf_29 : decode prog_7_method_4_code 29 = .ok (.iconst 2, 1) := by decide +kernel
theorem dR_portOf_30 : decode prog_7_method_4_code 30 = .ok (.goto 4, 3) := by decide +kernel
theorem dR_portOf_33 : decode prog_7_method_4_code 33 = .ok (.iconst 3, 1) := by decide +kernel
theorem dR_portOf_34 : decode prog_7_method_4_code 34 = .ok (.ireturn, 1) := by decide +kernel
theorem dR_widthOf_0 : decode prog_7_method_5_code 0 = .ok (.iload_n 0, 1) := by decide +kernel
theorem dR_widthOf_1 : decode prog_7_method_5_code 1 = .ok (.ifCond .ne 7, 3) := by decide +kernel
theorem dR_widthOf_4 : decode prog_7_method_5_code 4 = .ok (.iconst 4, 1) := by decide +kernel
theorem dR_widthOf_5 : decode prog_7_method_5_code 5 = .ok (.goto 14, 3) := by decide +kernel
theorem dR_widthOf_8 : decode prog_7_method_5_code 8 = .ok (.iload_n 0, 1) := by decide +kernel
theorem dR_widthOf_9 : decode prog_7_method_5_code 9 = .ok (.iconst 1, 1) := by decide +kernel
theorem dR_widthOf_10 : decode prog_7_method_5_code 10 = .ok (.if_icmp .ne 7, 3) := by decide +kernel
theorem dR_widthOf_13 : decode prog_7_method_5_code 13 = .ok (.iconst 1, 1) := by decide +kernel
theorem dR_widthOf_14 : decode prog_7_method_5_code 14 = .ok (.goto 5, 3) := by decide +kernel
theorem dR_widthOf_17 : decode prog_7_method_5_code 17 = .ok (.bipush 8, 2) := by decide +kernel
theorem dR_widthOf_19 : decode prog_7_method_5_code 19 = .ok (.ireturn, 1) := by decide +kernel
theorem dR_delayOf_0 : decode prog_7_method_6_code 0 = .ok (.iload_n 0, 1) := by decide +kernel
theorem dR_delayOf_1 : decode prog_7_method_6_code 1 = .ok (.ifCond .ne 7, 3) := by decide +kernel
theorem dR_delayOf_4 : decode prog_7_method_6_code 4 = .ok (.iconst 2, 1) := by decide +kernel
theorem dR_delayOf_5 : decode prog_7_method_6_code 5 = .ok (.goto 13, 3) := by decide +kernel
theorem dR_delayOf_8 : decode prog_7_method_6_code 8 = .ok (.iload_n 0, 1) := by decide +kernel
theorem dR_delayOf_9 : decode prog_7_method_6_code 9 = .ok (.iconst 2, 1) := by decide +kernel
theorem dR_delayOf_10 : decode prog_7_method_6_code 10 = .ok (.if_icmp .ne 7, 3) := by decide +kernel
theorem dR_delayOf_13 : decode prog_7_method_6_code 13 = .ok (.iconst 3, 1) := by decide +kernel
theorem dR_delayOf_14 : decode prog_7_method_6_code 14 = .ok (.goto 4, 3) := by decide +kernel
theorem dR_delayOf_17 : decode prog_7_method_6_code 17 = .ok (.iconst 1, 1) := by decide +kernel
theorem dR_delayOf_18 : decode prog_7_method_6_code 18 = .ok (.ireturn, 1) := by decide +kernel
theorem dR_isAt_0 : decode prog_7_method_7_code 0 = .ok (.aload_n 0, 1) := by decide +kernel
theorem dR_isAt_1 : decode prog_7_method_7_code 1 = .ok (.getfield 7, 3) := by decide +kernel
theorem dR_isAt_4 : decode prog_7_method_7_code 4 = .ok (.iload_n 1, 1) := by decide +kernel
theorem dR_isAt_5 : decode prog_7_method_7_code 5 = .ok (.iaload, 1) := by decide +kernel
theorem dR_isAt_6 : decode prog_7_method_7_code 6 = .ok (.iload_n 2, 1) := by decide +kernel
theorem dR_isAt_7 : decode prog_7_method_7_code 7 = .ok (.if_icmp .eq 5, 3) := by decide +kernel
theorem dR_isAt_10 : decode prog_7_method_7_code 10 = .ok (.iconst 0, 1) := by decide +kernel
theorem dR_isAt_11 : decode prog_7_method_7_code 11 = .ok (.ireturn, 1) := by decide +kernel
theorem dR_isAt_12 : decode prog_7_method_7_code 12 = .ok (.iload_n 3, 1) := by decide +kernel
theorem dR_isAt_13 : decode prog_7_method_7_code 13 = .ok (.ifCond .lt 19, 3) := by decide +kernel
theorem dR_isAt_16 : decode prog_7_method_7_code 16 = .ok (.iload_n 1, 1) := by decide +kernel
theorem dR_isAt_17 : decode prog_7_method_7_code 17 = .ok (.bipush 8, 2) := by decide +kernel
theorem dR_isAt_19 : decode prog_7_method_7_code 19 = .ok (.idiv, 1) := by decide +kernel
theorem dR_isAt_20 : decode prog_7_method_7_code 20 = .ok (.iload_n 3, 1) := by decide +kernel
theorem dR_isAt_21 : decode prog_7_method_7_code 21 = .ok (.if_icmp .ne 7, 3) := by decide +kernel
theorem dR_isAt_24 : decode prog_7_method_7_code 24 = .ok (.iconst 1, 1) := by decide +kernel
theorem dR_isAt_25 : decode prog_7_method_7_code 25 = .ok (.goto 27, 3) := by decide +kernel
theorem dR_isAt_28 : decode prog_7_method_7_code 28 = .ok (.iconst 0, 1) := by decide +kernel
theorem dR_isAt_29 : decode prog_7_method_7_code 29 = .ok (.goto 23, 3) := by decide +kernel
theorem dR_isAt_32 : decode prog_7_method_7_code 32 = .ok (.aload_n 0, 1) := by decide +kernel
theorem dR_isAt_33 : decode prog_7_method_7_code 33 = .ok (.getfield 22, 3) := by decide +kernel
theorem dR_isAt_36 : decode prog_7_method_7_code 36 = .ok (.iload_n 1, 1) := by decide +kernel
theorem dR_isAt_37 : decode prog_7_method_7_code 37 = .ok (.iaload, 1) := by decide +kernel
theorem dR_isAt_38 : decode prog_7_method_7_code 38 = .ok (.invokestatic 64, 3) := by decide +kernel
theorem dR_isAt_41 : decode prog_7_method_7_code 41 = .ok (.iconst (-1), 1) := by decide +kernel
theorem dR_isAt_42 : decode prog_7_method_7_code 42 = .ok (.iload_n 3, 1) := by decide +kernel
theorem dR_isAt_43 : decode prog_7_method_7_code 43 = .ok (.isub, 1) := by decide +kernel
theorem dR_isAt_44 : decode prog_7_method_7_code 44 = .ok (.if_icmp .ne 7, 3) := by decide +kernel
theorem dR_isAt_47 : decode prog_7_method_7_code 47 = .ok (.iconst 1, 1) := by decide +kernel
theorem dR_isAt_48 : decode prog_7_method_7_code 48 = .ok (.goto 4, 3) := by decide +kernel
theorem dR_isAt_51 : decode prog_7_method_7_code 51 = .ok (.iconst 0, 1) := by decide +kernel
theorem dR_isAt_52 : decode prog_7_method_7_code 52 = .ok (.ireturn, 1) := by decide +kernel
theorem dR_many_0 : decode prog_7_method_8_code 0 = .ok (.iconst 0, 1) := by decide +kernel
theorem dR_many_1 : decode prog_7_method_8_code 1 = .ok (.istore_n 3, 1) := by decide +kernel
theorem dR_many_2 : decode prog_7_method_8_code 2 = .ok (.iconst 0, 1) := by decide +kernel
theorem dR_many_3 : decode prog_7_method_8_code 3 = .ok (.istore 4, 2) := by decide +kernel
theorem dR_many_5 : decode prog_7_method_8_code 5 = .ok (.iload 4, 2) := by decide +kernel
theorem dR_many_7 : decode prog_7_method_8_code 7 = .ok (.bipush 24, 2) := by decide +kernel
theorem dR_many_9 : decode prog_7_method_8_code 9 = .ok (.if_icmp .ge 28, 3) := by decide +kernel
theorem dR_many_12 : decode prog_7_method_8_code 12 = .ok (.iload_n 3, 1) := by decide +kernel
theorem dR_many_13 : decode prog_7_method_8_code 13 = .ok (.aload_n 0, 1) := by decide +kernel
theorem dR_many_14 : decode prog_7_method_8_code 14 = .ok (.iload 4, 2) := by decide +kernel
theorem dR_many_16 : decode prog_7_method_8_code 16 = .ok (.iload_n 1, 1) := by decide +kernel
theorem dR_many_17 : decode prog_7_method_8_code 17 = .ok (.iload_n 2, 1) := by decide +kernel
theorem dR_many_18 : decode prog_7_method_8_code 18 = .ok (.invokevirtual 68, 3) := by decide +kernel
theorem dR_many_21 : decode prog_7_method_8_code 21 = .ok (.ifCond .eq 7, 3) := by decide +kernel
theorem dR_many_24 : decode prog_7_method_8_code 24 = .ok (.iconst 1, 1) := by decide +kernel
theorem dR_many_25 : decode prog_7_method_8_code 25 = .ok (.goto 4, 3) := by decide +kernel
theorem dR_many_28 : decode prog_7_method_8_code 28 = .ok (.iconst 0, 1) := by decide +kernel
theorem dR_many_29 : decode prog_7_method_8_code 29 = .ok (.iadd, 1) := by decide +kernel
theorem dR_many_30 : decode prog_7_method_8_code 30 = .ok (.istore_n 3, 1) := by decide +kernel
theorem dR_many_31 : decode prog_7_method_8_code 31 = .ok (.iinc 4 1, 3) := by decide +kernel
theorem dR_many_34 : decode prog_7_method_8_code 34 = .ok (.goto (-29), 3) := by decide +kernel
theorem dR_many_37 : decode prog_7_method_8_code 37 = .ok (.iload_n 3, 1) := by decide +kernel
theorem dR_many_38 : decode prog_7_method_8_code 38 = .ok (.ireturn, 1) := by decide +kernel
theorem dR_first_0 : decode prog_7_method_9_code 0 = .ok (.iconst (-1), 1) := by decide +kernel
theorem dR_first_1 : decode prog_7_method_9_code 1 = .ok (.istore_n 3, 1) := by decide +kernel
theorem dR_first_2 : decode prog_7_method_9_code 2 = .ok (.iconst 0, 1) := by decide +kernel
theorem dR_first_3 : decode prog_7_method_9_code 3 = .ok (.istore 4, 2) := by decide +kernel
theorem dR_first_5 : decode prog_7_method_9_code 5 = .ok (.iload 4, 2) := by decide +kernel
theorem dR_first_7 : decode prog_7_method_9_code 7 = .ok (.bipush 24, 2) := by decide +kernel
theorem dR_first_9 : decode prog_7_method_9_code 9 = .ok (.if_icmp .ge 43, 3) := by decide +kernel
theorem dR_first_12 : decode prog_7_method_9_code 12 = .ok (.aload_n 0, 1) := by decide +kernel
theorem dR_first_13 : decode prog_7_method_9_code 13 = .ok (.iload 4, 2) := by decide +kernel
theorem dR_first_15 : decode prog_7_method_9_code 15 = .ok (.iload_n 1, 1) := by decide +kernel
theorem dR_first_16 : decode prog_7_method_9_code 16 = .ok (.iload_n 2, 1) := by decide +kernel
theorem dR_first_17 : decode prog_7_method_9_code 17 = .ok (.invokevirtual 68, 3) := by decide +kernel
theorem dR_first_20 : decode prog_7_method_9_code 20 = .ok (.ifCond .eq 26, 3) := by decide +kernel
theorem dR_first_23 : decode prog_7_method_9_code 23 = .ok (.iload_n 3, 1) := by decide +kernel
theorem dR_first_24 : decode prog_7_method_9_code 24 = .ok (.ifCond .lt 19, 3) := by decide +kernel
theorem dR_first_27 : decode prog_7_method_9_code 27 = .ok (.aload_n 0, 1) := by decide +kernel
theorem dR_first_28 : decode prog_7_method_9_code 28 = .ok (.getfield 13, 3) := by decide +kernel
theorem dR_first_31 : decode prog_7_method_9_code 31 = .ok (.iload 4, 2) := by decide +kernel
theorem dR_first_33 : decode prog_7_method_9_code 33 = .ok (.iaload, 1) := by decide +kernel
theorem dR_first_34 : decode prog_7_method_9_code 34 = .ok (.aload_n 0, 1) := by decide +kernel
theorem dR_first_35 : decode prog_7_method_9_code 35 = .ok (.getfield 13, 3) := by decide +kernel
theorem dR_first_38 : decode prog_7_method_9_code 38 = .ok (.iload_n 3, 1) := by decide +kernel
theorem dR_first_39 : decode prog_7_method_9_code 39 = .ok (.iaload, 1) := by decide +kernel
theorem dR_first_40 : decode prog_7_method_9_code 40 = .ok (.if_icmp .ge 6, 3) := by decide +kernel
theorem dR_first_43 : decode prog_7_method_9_code 43 = .ok (.iload 4, 2) := by decide +kernel
theorem dR_first_45 : decode prog_7_method_9_code 45 = .ok (.istore_n 3, 1) := by decide +kernel
theorem dR_first_46 : decode prog_7_method_9_code 46 = .ok (.iinc 4 1, 3) := by decide +kernel
theorem dR_first_49 : decode prog_7_method_9_code 49 = .ok (.goto (-44), 3) := by decide +kernel
theorem dR_first_52 : decode prog_7_method_9_code 52 = .ok (.iload_n 3, 1) := by decide +kernel
theorem dR_first_53 : decode prog_7_method_9_code 53 = .ok (.ireturn, 1) := by decide +kernel
theorem dR_go_0 : decode prog_7_method_10_code 0 = .ok (.aload_n 0, 1) := by decide +kernel
theorem dR_go_1 : decode prog_7_method_10_code 1 = .ok (.getfield 7, 3) := by decide +kernel
theorem dR_go_4 : decode prog_7_method_10_code 4 = .ok (.iload_n 1, 1) := by decide +kernel
theorem dR_go_5 : decode prog_7_method_10_code 5 = .ok (.iload_n 2, 1) := by decide +kernel
theorem dR_go_6 : decode prog_7_method_10_code 6 = .ok (.iastore, 1) := by decide +kernel
theorem dR_go_7 : decode prog_7_method_10_code 7 = .ok (.aload_n 0, 1) := by decide +kernel
theorem dR_go_8 : decode prog_7_method_10_code 8 = .ok (.getfield 13, 3) := by decide +kernel
theorem dR_go_11 : decode prog_7_method_10_code 11 = .ok (.iload_n 1, 1) := by decide +kernel
theorem dR_go_12 : decode prog_7_method_10_code 12 = .ok (.aload_n 0, 1) := by decide +kernel
theorem dR_go_13 : decode prog_7_method_10_code 13 = .ok (.getfield 72, 3) := by decide +kernel
theorem dR_go_16 : decode prog_7_method_10_code 16 = .ok (.iastore, 1) := by decide +kernel
theorem dR_go_17 : decode prog_7_method_10_code 17 = .ok (.aload_n 0, 1) := by decide +kernel
theorem dR_go_18 : decode prog_7_method_10_code 18 = .ok (.dup, 1) := by decide +kernel
theorem dR_go_19 : decode prog_7_method_10_code 19 = .ok (.getfield 72, 3) := by decide +kernel
theorem dR_go_22 : decode prog_7_method_10_code 22 = .ok (.iconst 1, 1) := by decide +kernel
theorem dR_go_23 : decode prog_7_method_10_code 23 = .ok (.iadd, 1) := by decide +kernel
theorem dR_go_24 : decode prog_7_method_10_code 24 = .ok (.putfield 72, 3) := by decide +kernel
theorem dR_go_27 : decode prog_7_method_10_code 27 = .ok (.aload_n 0, 1) := by decide +kernel
theorem dR_go_28 : decode prog_7_method_10_code 28 = .ok (.iconst 1, 1) := by decide +kernel
theorem dR_go_29 : decode prog_7_method_10_code 29 = .ok (.putfield 75, 3) := by decide +kernel
theorem dR_go_32 : decode prog_7_method_10_code 32 = .ok (.return_, 1) := by decide +kernel
theorem dR_holder_0 : decode prog_7_method_11_code 0 = .ok (.iconst 0, 1) := by decide +kernel
theorem dR_holder_1 : decode prog_7_method_11_code 1 = .ok (.istore_n 3, 1) := by decide +kernel
theorem dR_holder_2 : decode prog_7_method_11_code 2 = .ok (.iload_n 3, 1) := by decide +kernel
theorem dR_holder_3 : decode prog_7_method_11_code 3 = .ok (.bipush 24, 2) := by decide +kernel
theorem dR_holder_5 : decode prog_7_method_11_code 5 = .ok (.if_icmp .ge 54, 3) := by decide +kernel
theorem dR_holder_8 : decode prog_7_method_11_code 8 = .ok (.aload_n 0, 1) := by decide +kernel
theorem dR_holder_9 : decode prog_7_method_11_code 9 = .ok (.getfield 7, 3) := by decide +kernel
theorem dR_holder_12 : decode prog_7_method_11_code 12 = .ok (.iload_n 3, 1) := by decide +kernel
theorem dR_holder_13 : decode prog_7_method_11_code 13 = .ok (.iaload, 1) := by decide +kernel
theorem dR_holder_14 : decode prog_7_method_11_code 14 = .ok (.iconst 2, 1) := by decide +kernel
theorem dR_holder_15 : decode prog_7_method_11_code 15 = .ok (.if_icmp .lt 38, 3) := by decide +kernel
theorem dR_holder_18 : decode prog_7_method_11_code 18 = .ok (.aload_n 0, 1) := by decide +kernel
theorem dR_holder_19 : decode prog_7_method_11_code 19 = .ok (.getfield 7, 3) := by decide +kernel
theorem dR_holder_22 : decode prog_7_method_11_code 22 = .ok (.iload_n 3, 1) := by decide +kernel
theorem dR_holder_23 : decode prog_7_method_11_code 23 = .ok (.iaload, 1) := by decide +kernel
theorem dR_holder_24 : decode prog_7_method_11_code 24 = .ok (.iconst 4, 1) := by decide +kernel
theorem dR_holder_25 : decode prog_7_method_11_code 25 = .ok (.if_icmp .gt 28, 3) := by decide +kernel
theorem dR_holder_28 : decode prog_7_method_11_code 28 = .ok (.aload_n 0, 1) := by decide +kernel
theorem dR_holder_29 : decode prog_7_method_11_code 29 = .ok (.getfield 22, 3) := by decide +kernel
theorem dR_holder_32 : decode prog_7_method_11_code 32 = .ok (.iload_n 3, 1) := by decide +kernel
theorem dR_holder_33 : decode prog_7_method_11_code 33 = .ok (.iaload, 1) := by decide +kernel
theorem dR_holder_34 : decode prog_7_method_11_code 34 = .ok (.invokestatic 64, 3) := by decide +kernel
theorem dR_holder_37 : decode prog_7_method_11_code 37 = .ok (.iload_n 1, 1) := by decide +kernel
theorem dR_holder_38 : decode prog_7_method_11_code 38 = .ok (.if_icmp .ne 15, 3) := by decide +kernel
theorem dR_holder_41 : decode prog_7_method_11_code 41 = .ok (.aload_n 0, 1) := by decide +kernel
theorem dR_holder_42 : decode prog_7_method_11_code 42 = .ok (.getfield 32, 3) := by decide +kernel
theorem dR_holder_45 : decode prog_7_method_11_code 45 = .ok (.iload_n 3, 1) := by decide +kernel
theorem dR_holder_46 : decode prog_7_method_11_code 46 = .ok (.iaload, 1) := by decide +kernel
theorem dR_holder_47 : decode prog_7_method_11_code 47 = .ok (.iload_n 2, 1) := by decide +kernel
theorem dR_holder_48 : decode prog_7_method_11_code 48 = .ok (.if_icmp .ne 5, 3) := by decide +kernel
theorem dR_holder_51 : decode prog_7_method_11_code 51 = .ok (.iload_n 3, 1) := by decide +kernel
theorem dR_holder_52 : decode prog_7_method_11_code 52 = .ok (.ireturn, 1) := by decide +kernel
theorem dR_holder_53 : decode prog_7_method_11_code 53 = .ok (.iinc 3 1, 3) := by decide +kernel
theorem dR_holder_56 : decode prog_7_method_11_code 56 = .ok (.goto (-54), 3) := by decide +kernel
theorem dR_holder_59 : decode prog_7_method_11_code 59 = .ok (.iconst (-1), 1) := by decide +kernel
theorem dR_holder_60 : decode prog_7_method_11_code 60 = .ok (.ireturn, 1) := by decide +kernel
theorem dR_freeId_0 : decode prog_7_method_12_code 0 = .ok (.iconst 0, 1) := by decide +kernel
theorem dR_freeId_1 : decode prog_7_method_12_code 1 = .ok (.istore_n 2, 1) := by decide +kernel
theorem dR_freeId_2 : decode prog_7_method_12_code 2 = .ok (.iload_n 2, 1) := by decide +kernel
theorem dR_freeId_3 : decode prog_7_method_12_code 3 = .ok (.iconst 4, 1) := by decide +kernel
theorem dR_freeId_4 : decode prog_7_method_12_code 4 = .ok (.if_icmp .ge 20, 3) := by decide +kernel
theorem dR_freeId_7 : decode prog_7_method_12_code 7 = .ok (.aload_n 0, 1) := by decide +kernel
theorem dR_freeId_8 : decode prog_7_method_12_code 8 = .ok (.iload_n 1, 1) := by decide +kernel
theorem dR_freeId_9 : decode prog_7_method_12_code 9 = .ok (.iload_n 2, 1) := by decide +kernel
theorem dR_freeId_10 : decode prog_7_method_12_code 10 = .ok (.invokevirtual 79, 3) := by decide +kernel
theorem dR_freeId_13 : decode prog_7_method_12_code 13 = .ok (.ifCond .ge 5, 3) := by decide +kernel
theorem dR_freeId_16 : decode prog_7_method_12_code 16 = .ok (.iload_n 2, 1) := by decide +kernel
theorem dR_freeId_17 : decode prog_7_method_12_code 17 = .ok (.ireturn, 1) := by decide +kernel
theorem dR_freeId_18 : decode prog_7_method_12_code 18 = .ok (.iinc 2 1, 3) := by decide +kernel
theorem dR_freeId_21 : decode prog_7_method_12_code 21 = .ok (.goto (-19), 3) := by decide +kernel
theorem dR_freeId_24 : decode prog_7_method_12_code 24 = .ok (.iconst (-1), 1) := by decide +kernel
theorem dR_freeId_25 : decode prog_7_method_12_code 25 = .ok (.ireturn, 1) := by decide +kernel
theorem dR_request_0 : decode prog_7_method_13_code 0 = .ok (.iload_n 1, 1) := by decide +kernel
theorem dR_request_1 : decode prog_7_method_13_code 1 = .ok (.iconst 3, 1) := by decide +kernel
theorem dR_request_2 : decode prog_7_method_13_code 2 = .ok (.invokestatic 83, 3) := by decide +kernel
theorem dR_request_5 : decode prog_7_method_13_code 5 = .ok (.ifCond .eq 55, 3) := by decide +kernel
theorem dR_request_8 : decode prog_7_method_13_code 8 = .ok (.iload_n 2, 1) := by decide +kernel
theorem dR_request_9 : decode prog_7_method_13_code 9 = .ok (.bipush 8, 2) := by decide +kernel
theorem dR_request_11 : decode prog_7_method_13_code 11 = .ok (.invokestatic 83, 3) := by decide +kernel
theorem dR_request_14 : decode prog_7_method_13_code 14 = .ok (.ifCond .eq 46, 3) := by decide +kernel
theorem dR_request_17 : decode prog_7_method_13_code 17 = .ok (.iload_n 3, 1) := by decide +kernel
theorem dR_request_18 : decode prog_7_method_13_code 18 = .ok (.iconst 3, 1) := by decide +kernel
theorem dR_request_19 : decode prog_7_method_13_code 19 = .ok (.invokestatic 83, 3) := by decide +kernel
theorem dR_request_22 : decode prog_7_method_13_code 22 = .ok (.ifCond .eq 38, 3) := by decide +kernel
theorem dR_request_25 : decode prog_7_method_13_code 25 = .ok (.iload 4, 2) := by decide +kernel
theorem dR_request_27 : decode prog_7_method_13_code 27 = .ok (.iconst 4, 1) := by decide +kernel
theorem dR_request_28 : decode prog_7_method_13_code 28 = .ok (.invokestatic 83, 3) := by decide +kernel
theorem dR_request_31 : decode prog_7_method_13_code 31 = .ok (.ifCond .eq 29, 3) := by decide +kernel
theorem dR_request_34 : decode prog_7_method_13_code 34 = .ok (.iload 5, 2) := by decide +kernel
theorem dR_request_36 : decode prog_7_method_13_code 36 = .ok (.sipush 1024, 3) := by decide +kernel
theorem dR_request_39 : decode prog_7_method_13_code 39 = .ok (.invokestatic 83, 3) := by decide +kernel
theorem dR_request_42 : decode prog_7_method_13_code 42 = .ok (.ifCond .eq 18, 3) := by decide +kernel
theorem dR_request_45 : decode prog_7_method_13_code 45 = .ok (.iload 8, 2) := by decide +kernel
theorem dR_request_47 : decode prog_7_method_13_code 47 = .ok (.sipush 256, 3) := by decide +kernel
theorem dR_request_50 : decode prog_7_method_13_code 50 = .ok (.invokestatic 83, 3) := by decide +kernel
theorem dR_request_53 : decode prog_7_method_13_code 53 = .ok (.ifCond .eq 7, 3) := by decide +kernel
theorem dR_request_56 : decode prog_7_method_13_code 56 = .ok (.iconst 1, 1) := by decide +kernel
theorem dR_request_57 : decode prog_7_method_13_code 57 = .ok (.goto 4, 3) := by decide +kernel
theorem dR_request_60 : decode prog_7_method_13_code 60 = .ok (.iconst 0, 1) := by decide +kernel
theorem dR_request_61 : decode prog_7_method_13_code 61 = .ok (.istore 9, 2) := by decide +kernel
theorem dR_request_63 : decode prog_7_method_13_code 63 = .ok (.aload_n 0, 1) := by decide +kernel
theorem dR_request_64 : decode prog_7_method_13_code 64 = .ok (.iload 9, 2) := by decide +kernel
theorem dR_request_66 : decode prog_7_method_13_code 66 = .ok (.ifCond .eq 17, 3) := by decide +kernel
theorem dR_request_69 : decode prog_7_method_13_code 69 = .ok (.iload 5, 2) := by decide +kernel
theorem dR_request_71 : decode prog_7_method_13_code 71 = .ok (.iconst 1, 1) := by decide +kernel
theorem dR_request_72 : decode prog_7_method_13_code 72 = .ok (.iload 4, 2) := by decide +kernel
theorem dR_request_74 : decode prog_7_method_13_code 74 = .ok (.ishl, 1) := by decide +kernel
theorem dR_request_75 : decode prog_7_method_13_code 75 = .ok (.irem, 1) := by decide +kernel
theorem dR_request_76 : decode prog_7_method_13_code 76 = .ok (.ifCond .ne 7, 3) := by decide +kernel
theorem dR_request_79 : decode prog_7_method_13_code 79 = .ok (.iconst 0, 1) := by decide +kernel
theorem dR_request_80 : decode prog_7_method_13_code 80 = .ok (.goto 4, 3) := by decide +kernel
theorem dR_request_83 : decode prog_7_method_13_code 83 = .ok (.iconst 1, 1) := by decide +kernel
theorem dR_request_84 : decode prog_7_method_13_code 84 = .ok (.putfield 60, 3) := by decide +kernel
theorem dR_request_87 : decode prog_7_method_13_code 87 = .ok (.aload_n 0, 1) := by decide +kernel
theorem dR_request_88 : decode prog_7_method_13_code 88 = .ok (.getfield 60, 3) := by decide +kernel
theorem dR_request_91 : decode prog_7_method_13_code 91 = .ok (.ifCond .le 5, 3) := by decide +kernel
theorem dR_request_94 : decode prog_7_method_13_code 94 = .ok (.iconst 0, 1) := by decide +kernel
theorem dR_request_95 : decode prog_7_method_13_code 95 = .ok (.ireturn, 1) := by decide +kernel
theorem dR_request_96 : decode prog_7_method_13_code 96 = .ok (.bipush 8, 2) := by decide +kernel
theorem dR_request_98 : decode prog_7_method_13_code 98 = .ok (.iload_n 1, 1) := by decide +kernel
theorem dR_request_99 : decode prog_7_method_13_code 99 = .ok (.imul, 1) := by decide +kernel
theorem dR_request_100 : decode prog_7_method_13_code 100 = .ok (.iload_n 2, 1) := by decide +kernel
theorem dR_request_101 : decode prog_7_method_13_code 101 = .ok (.iadd, 1) := by decide +kernel
theorem dR_request_102 : decode prog_7_method_13_code 102 = .ok (.istore 10, 2) := by decide +kernel
theorem dR_request_104 : decode prog_7_method_13_code 104 = .ok (.aload_n 0, 1) := by decide +kernel
theorem dR_request_105 : decode prog_7_method_13_code 105 = .ok (.getfield 7, 3) := by decide +kernel
theorem dR_request_108 : decode prog_7_method_13_code 108 = .ok (.iload 10, 2) := by decide +kernel
theorem dR_request_110 : decode prog_7_method_13_code 110 = .ok (.iaload, 1) := by decide +kernel
theorem dR_request_111 : decode prog_7_method_13_code 111 = .ok (.ifCond .ne 14, 3) := by decide +kernel
theorem dR_request_114 : decode prog_7_method_13_code 114 = .ok (.aload_n 0, 1) := by decide +kernel
theorem dR_request_115 : decode prog_7_method_13_code 115 = .ok (.iconst 1, 1) := by decide +kernel
theorem dR_request_116 : decode prog_7_method_13_code 116 = .ok (.iload_n 1, 1) := by decide +kernel
theorem dR_request_117 : decode prog_7_method_13_code 117 = .ok (.invokevirtual 87, 3) := by decide +kernel
theorem dR_request_120 : decode prog_7_method_13_code 120 = .ok (.bipush 8, 2) := by decide +kernel
theorem dR_request_122 : decode prog_7_method_13_code 122 = .ok (.if_icmp .ne 5, 3) := by decide +kernel
theorem dR_request_125 : decode prog_7_method_13_code 125 = .ok (.iconst (-1), 1) := by decide +kernel
theorem dR_request_126 : decode prog_7_method_13_code 126 = .ok (.ireturn, 1) := by decide +kernel
theorem dR_request_127 : decode prog_7_method_13_code 127 = .ok (.aload_n 0, 1) := by decide +kernel
theorem dR_request_128 : decode prog_7_method_13_code 128 = .ok (.getfield 16, 3) := by decide +kernel
theorem dR_request_131 : decode prog_7_method_13_code 131 = .ok (.iload 10, 2) := by decide +kernel
theorem dR_request_133 : decode prog_7_method_13_code 133 = .ok (.iload_n 3, 1) := by decide +kernel
theorem dR_request_134 : decode prog_7_method_13_code 134 = .ok (.iastore, 1) := by decide +kernel
theorem dR_request_135 : decode prog_7_method_13_code 135 = .ok (.aload_n 0, 1) := by decide +kernel
theorem dR_request_136 : decode prog_7_method_13_code 136 = .ok (.getfield 19, 3) := by decide +kernel
theorem dR_request_139 : decode prog_7_method_13_code 139 = .ok (.iload 10, 2) := by decide +kernel
theorem dR_request_141 : decode prog_7_method_13_code 141 = .ok (.iconst 1, 1) := by decide +kernel
theorem dR_request_142 : decode prog_7_method_13_code 142 = .ok (.iload 4, 2) := by decide +kernel
theorem dR_request_144 : decode prog_7_method_13_code 144 = .ok (.ishl, 1) := by decide +kernel
theorem dR_request_145 : decode prog_7_method_13_code 145 = .ok (.iastore, 1) := by decide +kernel
theorem dR_request_146 : decode prog_7_method_13_code 146 = .ok (.aload_n 0, 1) := by decide +kernel
theorem dR_request_147 : decode prog_7_method_13_code 147 = .ok (.getfield 22, 3) := by decide +kernel
theorem dR_request_150 : decode prog_7_method_13_code 150 = .ok (.iload 10, 2) := by decide +kernel
theorem dR_request_152 : decode prog_7_method_13_code 152 = .ok (.iload 5, 2) := by decide +kernel
theorem dR_request_154 : decode prog_7_method_13_code 154 = .ok (.iastore, 1) := by decide +kernel
theorem dR_request_155 : decode prog_7_method_13_code 155 = .ok (.aload_n 0, 1) := by decide +kernel
theorem dR_request_156 : decode prog_7_method_13_code 156 = .ok (.getfield 25, 3) := by decide +kernel
theorem dR_request_159 : decode prog_7_method_13_code 159 = .ok (.iload 10, 2) := by decide +kernel
theorem dR_request_161 : decode prog_7_method_13_code 161 = .ok (.lload 6, 2) := by decide +kernel
theorem dR_request_163 : decode prog_7_method_13_code 163 = .ok (.lastore, 1) := by decide +kernel
theorem dR_request_164 : decode prog_7_method_13_code 164 = .ok (.aload_n 0, 1) := by decide +kernel
theorem dR_request_165 : decode prog_7_method_13_code 165 = .ok (.getfield 29, 3) := by decide +kernel
theorem dR_request_168 : decode prog_7_method_13_code 168 = .ok (.iload 10, 2) := by decide +kernel
theorem dR_request_170 : decode prog_7_method_13_code 170 = .ok (.iload 8, 2) := by decide +kernel
theorem dR_request_172 : decode prog_7_method_13_code 172 = .ok (.iastore, 1) := by decide +kernel
theorem dR_request_173 : decode prog_7_method_13_code 173 = .ok (.aload_n 0, 1) := by decide +kernel
theorem dR_request_174 : decode prog_7_method_13_code 174 = .ok (.iload 10, 2) := by decide +kernel
theorem dR_request_176 : decode prog_7_method_13_code 176 = .ok (.iconst 1, 1) := by decide +kernel
theorem dR_request_177 : decode prog_7_method_13_code 177 = .ok (.invokevirtual 90, 3) := by decide +kernel
theorem dR_request_180 : decode prog_7_method_13_code 180 = .ok (.aload_n 0, 1) := by decide +kernel
theorem dR_request_181 : decode prog_7_method_13_code 181 = .ok (.getfield 57, 3) := by decide +kernel
theorem dR_request_184 : decode prog_7_method_13_code 184 = .ok (.iconst 1, 1) := by decide +kernel
theorem dR_request_185 : decode prog_7_method_13_code 185 = .ok (.dup2, 1) := by decide +kernel
theorem dR_request_186 : decode prog_7_method_13_code 186 = .ok (.iaload, 1) := by decide +kernel
theorem dR_request_187 : decode prog_7_method_13_code 187 = .ok (.iconst 1, 1) := by decide +kernel
theorem dR_request_188 : decode prog_7_method_13_code 188 = .ok (.iadd, 1) := by decide +kernel
theorem dR_request_189 : decode prog_7_method_13_code 189 = .ok (.iastore, 1) := by decide +kernel
theorem dR_request_190 : decode prog_7_method_13_code 190 = .ok (.aload_n 0, 1) := by decide +kernel
theorem dR_request_191 : decode prog_7_method_13_code 191 = .ok (.iconst 1, 1) := by decide +kernel
theorem dR_request_192 : decode prog_7_method_13_code 192 = .ok (.iload_n 1, 1) := by decide +kernel
theorem dR_request_193 : decode prog_7_method_13_code 193 = .ok (.invokevirtual 87, 3) := by decide +kernel
theorem dR_request_196 : decode prog_7_method_13_code 196 = .ok (.ireturn, 1) := by decide +kernel
theorem dR_accept_0 : decode prog_7_method_14_code 0 = .ok (.aload_n 0, 1) := by decide +kernel
theorem dR_accept_1 : decode prog_7_method_14_code 1 = .ok (.iload_n 1, 1) := by decide +kernel
theorem dR_accept_2 : decode prog_7_method_14_code 2 = .ok (.iconst 3, 1) := by decide +kernel
theorem dR_accept_3 : decode prog_7_method_14_code 3 = .ok (.invokestatic 83, 3) := by decide +kernel
theorem dR_accept_6 : decode prog_7_method_14_code 6 = .ok (.ifCond .eq 7, 3) := by decide +kernel
theorem dR_accept_9 : decode prog_7_method_14_code 9 = .ok (.iconst 0, 1) := by decide +kernel
theorem dR_accept_10 : decode prog_7_method_14_code 10 = .ok (.goto 4, 3) := by decide +kernel
theorem dR_accept_13 : decode prog_7_method_14_code 13 = .ok (.iconst 1, 1) := by decide +kernel
theorem dR_accept_14 : decode prog_7_method_14_code 14 = .ok (.putfield 60, 3) := by decide +kernel
theorem dR_accept_17 : decode prog_7_method_14_code 17 = .ok (.aload_n 0, 1) := by decide +kernel
theorem dR_accept_18 : decode prog_7_method_14_code 18 = .ok (.getfield 60, 3) := by decide +kernel
theorem dR_accept_21 : decode prog_7_method_14_code 21 = .ok (.ifCond .le 5, 3) := by decide +kernel
theorem dR_accept_24 : decode prog_7_method_14_code 24 = .ok (.iconst 0, 1) := by decide +kernel
theorem dR_accept_25 : decode prog_7_method_14_code 25 = .ok (.ireturn, 1) := by decide +kernel
theorem dR_accept_26 : decode prog_7_method_14_code 26 = .ok (.aload_n 0, 1) := by decide +kernel
theorem dR_accept_27 : decode prog_7_method_14_code 27 = .ok (.getfield 35, 3) := by decide +kernel
theorem dR_accept_30 : decode prog_7_method_14_code 30 = .ok (.iload_n 1, 1) := by decide +kernel
theorem dR_accept_31 : decode prog_7_method_14_code 31 = .ok (.baload, 1) := by decide +kernel
theorem dR_accept_32 : decode prog_7_method_14_code 32 = .ok (.ifCond .ne 7, 3) := by decide +kernel
theorem dR_accept_35 : decode prog_7_method_14_code 35 = .ok (.iconst 1, 1) := by decide +kernel
theorem dR_accept_36 : decode prog_7_method_14_code 36 = .ok (.goto 4, 3) := by decide +kernel
theorem dR_accept_39 : decode prog_7_method_14_code 39 = .ok (.iconst 0, 1) := by decide +kernel
theorem dR_accept_40 : decode prog_7_method_14_code 40 = .ok (.istore_n 3, 1) := by decide +kernel
theorem dR_accept_41 : decode prog_7_method_14_code 41 = .ok (.aload_n 0, 1) := by decide +kernel
theorem dR_accept_42 : decode prog_7_method_14_code 42 = .ok (.getfield 35, 3) := by decide +kernel
theorem dR_accept_45 : decode prog_7_method_14_code 45 = .ok (.iload_n 1, 1) := by decide +kernel
theorem dR_accept_46 : decode prog_7_method_14_code 46 = .ok (.iload_n 2, 1) := by decide +kernel
theorem dR_accept_47 : decode prog_7_method_14_code 47 = .ok (.ifCond .ne 7, 3) := by decide +kernel
theorem dR_accept_50 : decode prog_7_method_14_code 50 = .ok (.iconst 1, 1) := by decide +kernel
theorem dR_accept_51 : decode prog_7_method_14_code 51 = .ok (.goto 4, 3) := by decide +kernel
theorem dR_accept_54 : decode prog_7_method_14_code 54 = .ok (.iconst 0, 1) := by decide +kernel
theorem dR_accept_55 : decode prog_7_method_14_code 55 = .ok (.bastore, 1) := by decide +kernel
theorem dR_accept_56 : decode prog_7_method_14_code 56 = .ok (.iload_n 3, 1) := by decide +kernel
theorem dR_accept_57 : decode prog_7_method_14_code 57 = .ok (.ireturn, 1) := by decide +kernel
theorem dR_answers_0 : decode prog_7_method_15_code 0 = .ok (.aload_n 0, 1) := by decide +kernel
theorem dR_answers_1 : decode prog_7_method_15_code 1 = .ok (.getfield 35, 3) := by decide +kernel
theorem dR_answers_4 : decode prog_7_method_15_code 4 = .ok (.iload_n 1, 1) := by decide +kernel
theorem dR_answers_5 : decode prog_7_method_15_code 5 = .ok (.baload, 1) := by decide +kernel
theorem dR_answers_6 : decode prog_7_method_15_code 6 = .ok (.ifCond .ne 13, 3) := by decide +kernel
theorem dR_answers_9 : decode prog_7_method_15_code 9 = .ok (.aload_n 0, 1) := by decide +kernel
theorem dR_answers_10 : decode prog_7_method_15_code 10 = .ok (.iconst 5, 1) := by decide +kernel
theorem dR_answers_11 : decode prog_7_method_15_code 11 = .ok (.iload_n 1, 1) := by decide +kernel
theorem dR_answers_12 : decode prog_7_method_15_code 12 = .ok (.invokevirtual 87, 3) := by decide +kernel
theorem dR_answers_15 : decode prog_7_method_15_code 15 = .ok (.iconst 3, 1) := by decide +kernel
theorem dR_answers_16 : decode prog_7_method_15_code 16 = .ok (.if_icmp .le 4, 3) := by decide +kernel
theorem dR_answers_19 : decode prog_7_method_15_code 19 = .ok (.return_, 1) := by decide +kernel
theorem dR_answers_20 : decode prog_7_method_15_code 20 = .ok (.iconst 0, 1) := by decide +kernel
theorem dR_answers_21 : decode prog_7_method_15_code 21 = .ok (.istore_n 2, 1) := by decide +kernel
theorem dR_answers_22 : decode prog_7_method_15_code 22 = .ok (.iload_n 2, 1) := by decide +kernel
theorem dR_answers_23 : decode prog_7_method_15_code 23 = .ok (.iconst 4, 1) := by decide +kernel
theorem dR_answers_24 : decode prog_7_method_15_code 24 = .ok (.if_icmp .ge 76, 3) := by decide +kernel
theorem dR_answers_27 : decode prog_7_method_15_code 27 = .ok (.aload_n 0, 1) := by decide +kernel
theorem dR_answers_28 : decode prog_7_method_15_code 28 = .ok (.getfield 39, 3) := by decide +kernel
theorem dR_answers_31 : decode prog_7_method_15_code 31 = .ok (.iload_n 1, 1) := by decide +kernel
theorem dR_answers_32 : decode prog_7_method_15_code 32 = .ok (.iaload, 1) := by decide +kernel
theorem dR_answers_33 : decode prog_7_method_15_code 33 = .ok (.iload_n 2, 1) := by decide +kernel
theorem dR_answers_34 : decode prog_7_method_15_code 34 = .ok (.iadd, 1) := by decide +kernel
theorem dR_answers_35 : decode prog_7_method_15_code 35 = .ok (.iconst 4, 1) := by decide +kernel
theorem dR_answers_36 : decode prog_7_method_15_code 36 = .ok (.irem, 1) := by decide +kernel
theorem dR_answers_37 : decode prog_7_method_15_code 37 = .ok (.istore_n 3, 1) := by decide +kernel
theorem dR_answers_38 : decode prog_7_method_15_code 38 = .ok (.aload_n 0, 1) := by decide +kernel
theorem dR_answers_39 : decode prog_7_method_15_code 39 = .ok (.iconst 4, 1) := by decide +kernel
theorem dR_answers_40 : decode prog_7_method_15_code 40 = .ok (.iconst (-1), 1) := by decide +kernel
theorem dR_answers_41 : decode prog_7_method_15_code 41 = .ok (.iload_n 3, 1) := by decide +kernel
theorem dR_answers_42 : decode prog_7_method_15_code 42 = .ok (.isub, 1) := by decide +kernel
theorem dR_answers_43 : decode prog_7_method_15_code 43 = .ok (.invokevirtual 94, 3) := by decide +kernel
theorem dR_answers_46 : decode prog_7_method_15_code 46 = .ok (.istore 4, 2) := by decide +kernel
theorem dR_answers_48 : decode prog_7_method_15_code 48 = .ok (.iload 4, 2) := by decide +kernel
theorem dR_answers_50 : decode prog_7_method_15_code 50 = .ok (.ifCond .lt 44, 3) := by decide +kernel
theorem dR_answers_53 : decode prog_7_method_15_code 53 = .ok (.iload 4, 2) := by decide +kernel
theorem dR_answers_55 : decode prog_7_method_15_code 55 = .ok (.bipush 8, 2) := by decide +kernel
theorem dR_answers_57 : decode prog_7_method_15_code 57 = .ok (.idiv, 1) := by decide +kernel
theorem dR_answers_58 : decode prog_7_method_15_code 58 = .ok (.iload_n 1, 1) := by decide +kernel
theorem dR_answers_59 : decode prog_7_method_15_code 59 = .ok (.if_icmp .eq 6, 3) := by decide +kernel
theorem dR_answers_62 : decode prog_7_method_15_code 62 = .ok (.goto 32, 3) := by decide +kernel
theorem dR_answers_65 : decode prog_7_method_15_code 65 = .ok (.aload_n 0, 1) := by decide +kernel
theorem dR_answers_66 : decode prog_7_method_15_code 66 = .ok (.getfield 39, 3) := by decide +kernel
theorem dR_answers_69 : decode prog_7_method_15_code 69 = .ok (.iload_n 1, 1) := by decide +kernel
theorem dR_answers_70 : decode prog_7_method_15_code 70 = .ok (.iload_n 3, 1) := by decide +kernel
theorem dR_answers_71 : decode prog_7_method_15_code 71 = .ok (.iconst 1, 1) := by decide +kernel
theorem dR_answers_72 : decode prog_7_method_15_code 72 = .ok (.iadd, 1) := by decide +kernel
theorem dR_answers_73 : decode prog_7_method_15_code 73 = .ok (.iconst 4, 1) := by decide +kernel
theorem dR_answers_74 : decode prog_7_method_15_code 74 = .ok (.irem, 1) := by decide +kernel
theorem dR_answers_75 : decode prog_7_method_15_code 75 = .ok (.iastore, 1) := by decide +kernel
theorem dR_answers_76 : decode prog_7_method_15_code 76 = .ok (.aload_n 0, 1) := by decide +kernel
theorem dR_answers_77 : decode prog_7_method_15_code 77 = .ok (.iload 4, 2) := by decide +kernel
theorem dR_answers_79 : decode prog_7_method_15_code 79 = .ok (.iconst 5, 1) := by decide +kernel
theorem dR_answers_80 : decode prog_7_method_15_code 80 = .ok (.invokevirtual 90, 3) := by decide +kernel
theorem dR_answers_83 : decode prog_7_method_15_code 83 = .ok (.aload_n 0, 1) := by decide +kernel
theorem dR_answers_84 : decode prog_7_method_15_code 84 = .ok (.getfield 57, 3) := by decide +kernel
theorem dR_answers_87 : decode prog_7_method_15_code 87 = .ok (.iconst 4, 1) := by decide +kernel
theorem dR_answers_88 : decode prog_7_method_15_code 88 = .ok (.dup2, 1) := by decide +kernel
theorem dR_answers_89 : decode prog_7_method_15_code 89 = .ok (.iaload, 1) := by decide +kernel
theorem dR_answers_90 : decode prog_7_method_15_code 90 = .ok (.iconst 1, 1) := by decide +kernel
theorem dR_answers_91 : decode prog_7_method_15_code 91 = .ok (.iadd, 1) := by decide +kernel
theorem dR_answers_92 : decode prog_7_method_15_code 92 = .ok (.iastore, 1) := by decide +kernel
theorem dR_answers_93 : decode prog_7_method_15_code 93 = .ok (.return_, 1) := by decide +kernel
theorem dR_answers_94 : decode prog_7_method_15_code 94 = .ok (.iinc 2 1, 3) := by decide +kernel
theorem dR_answers_97 : decode prog_7_method_15_code 97 = .ok (.goto (-75), 3) := by decide +kernel
theorem dR_answers_100 : decode prog_7_method_15_code 100 = .ok (.return_, 1) := by decide +kernel
theorem dR_work_0 : decode prog_7_method_16_code 0 = .ok (.lconst 0, 1) := by decide +kernel
theorem dR_work_1 : decode prog_7_method_16_code 1 = .ok (.lstore_n 2, 1) := by decide +kernel
theorem dR_work_2 : decode prog_7_method_16_code 2 = .ok (.iconst 0, 1) := by decide +kernel
theorem dR_work_3 : decode prog_7_method_16_code 3 = .ok (.istore 4, 2) := by decide +kernel
theorem dR_work_5 : decode prog_7_method_16_code 5 = .ok (.iload 4, 2) := by decide +kernel
theorem dR_work_7 : decode prog_7_method_16_code 7 = .ok (.aload_n 0, 1) := by decide +kernel
theorem dR_work_8 : decode prog_7_method_16_code 8 = .ok (.getfield 19, 3) := by decide +kernel
theorem dR_work_11 : decode prog_7_method_16_code 11 = .ok (.iload_n 1, 1) := by decide +kernel
theorem dR_work_12 : decode prog_7_method_16_code 12 = .ok (.iaload, 1) := by decide +kernel
theorem dR_work_13 : decode prog_7_method_16_code 13 = .ok (.if_icmp .ge 110, 3) := by decide +kernel
theorem dR_work_16 : decode prog_7_method_16_code 16 = .ok (.aload_n 0, 1) := by decide +kernel
theorem dR_work_17 : decode prog_7_method_16_code 17 = .ok (.getfield 22, 3) := by decide +kernel
theorem dR_work_20 : decode prog_7_method_16_code 20 = .ok (.iload_n 1, 1) := by decide +kernel
theorem dR_work_21 : decode prog_7_method_16_code 21 = .ok (.iaload, 1) := by decide +kernel
theorem dR_work_22 : decode prog_7_method_16_code 22 = .ok (.sipush 640, 3) := by decide +kernel
theorem dR_work_25 : decode prog_7_method_16_code 25 = .ok (.if_icmp .ge 98, 3) := by decide +kernel
theorem dR_work_28 : decode prog_7_method_16_code 28 = .ok (.aload_n 0, 1) := by decide +kernel
theorem dR_work_29 : decode prog_7_method_16_code 29 = .ok (.getfield 22, 3) := by decide +kernel
theorem dR_work_32 : decode prog_7_method_16_code 32 = .ok (.iload_n 1, 1) := by decide +kernel
theorem dR_work_33 : decode prog_7_method_16_code 33 = .ok (.iaload, 1) := by decide +kernel
theorem dR_work_34 : decode prog_7_method_16_code 34 = .ok (.iload 4, 2) := by decide +kernel
theorem dR_work_36 : decode prog_7_method_16_code 36 = .ok (.iadd, 1) := by decide +kernel
theorem dR_work_37 : decode prog_7_method_16_code 37 = .ok (.istore 5, 2) := by decide +kernel
theorem dR_work_39 : decode prog_7_method_16_code 39 = .ok (.aload_n 0, 1) := by decide +kernel
theorem dR_work_40 : decode prog_7_method_16_code 40 = .ok (.getfield 16, 3) := by decide +kernel
theorem dR_work_43 : decode prog_7_method_16_code 43 = .ok (.iload_n 1, 1) := by decide +kernel
theorem dR_work_44 : decode prog_7_method_16_code 44 = .ok (.iaload, 1) := by decide +kernel
theorem dR_work_45 : decode prog_7_method_16_code 45 = .ok (.ifCond .ne 23, 3) := by decide +kernel
theorem dR_work_48 : decode prog_7_method_16_code 48 = .ok (.lload_n 2, 1) := by decide +kernel
theorem dR_work_49 : decode prog_7_method_16_code 49 = .ok (.aload_n 0, 1) := by decide +kernel
theorem dR_work_50 : decode prog_7_method_16_code 50 = .ok (.getfield 51, 3) := by decide +kernel
theorem dR_work_53 : decode prog_7_method_16_code 53 = .ok (.iload 5, 2) := by decide +kernel
theorem dR_work_55 : decode prog_7_method_16_code 55 = .ok (.iaload, 1) := by decide +kernel
theorem dR_work_56 : decode prog_7_method_16_code 56 = .ok (.i2l, 1) := by decide +kernel
theorem dR_work_57 : decode prog_7_method_16_code 57 = .ok (.bipush 8, 2) := by decide +kernel
theorem dR_work_59 : decode prog_7_method_16_code 59 = .ok (.iload 4, 2) := by decide +kernel
theorem dR_work_61 : decode prog_7_method_16_code 61 = .ok (.imul, 1) := by decide +kernel
theorem dR_work_62 : decode prog_7_method_16_code 62 = .ok (.lshl, 1) := by decide +kernel
theorem dR_work_63 : decode prog_7_method_16_code 63 = .ok (.lor, 1) := by decide +kernel
theorem dR_work_64 : decode prog_7_method_16_code 64 = .ok (.lstore_n 2, 1) := by decide +kernel
theorem dR_work_65 : decode prog_7_method_16_code 65 = .ok (.goto 52, 3) := by decide +kernel
theorem dR_work_68 : decode prog_7_method_16_code 68 = .ok (.aload_n 0, 1) := by decide +kernel
theorem dR_work_69 : decode prog_7_method_16_code 69 = .ok (.getfield 16, 3) := by decide +kernel
theorem dR_work_72 : decode prog_7_method_16_code 72 = .ok (.iload_n 1, 1) := by decide +kernel
theorem dR_work_73 : decode prog_7_method_16_code 73 = .ok (.iaload, 1) := by decide +kernel
theorem dR_work_74 : decode prog_7_method_16_code 74 = .ok (.iconst 1, 1) := by decide +kernel
theorem dR_work_75 : decode prog_7_method_16_code 75 = .ok (.if_icmp .eq 18, 3) := by decide +kernel
theorem dR_work_78 : decode prog_7_method_16_code 78 = .ok (.aload_n 0, 1) := by decide +kernel
theorem dR_work_79 : decode prog_7_method_16_code 79 = .ok (.getfield 29, 3) := by decide +kernel
theorem dR_work_82 : decode prog_7_method_16_code 82 = .ok (.iload_n 1, 1) := by decide +kernel
theorem dR_work_83 : decode prog_7_method_16_code 83 = .ok (.iaload, 1) := by decide +kernel
theorem dR_work_84 : decode prog_7_method_16_code 84 = .ok (.iload 4, 2) := by decide +kernel
theorem dR_work_86 : decode prog_7_method_16_code 86 = .ok (.ishr, 1) := by decide +kernel
theorem dR_work_87 : decode prog_7_method_16_code 87 = .ok (.iconst 1, 1) := by decide +kernel
theorem dR_work_88 : decode prog_7_method_16_code 88 = .ok (.iand, 1) := by decide +kernel
theorem dR_work_89 : decode prog_7_method_16_code 89 = .ok (.iconst 1, 1) := by decide +kernel
theorem dR_work_90 : decode prog_7_method_16_code 90 = .ok (.if_icmp .ne 27, 3) := by decide +kernel
theorem dR_work_93 : decode prog_7_method_16_code 93 = .ok (.aload_n 0, 1) := by decide +kernel
theorem dR_work_94 : decode prog_7_method_16_code 94 = .ok (.getfield 51, 3) := by decide +kernel
theorem dR_work_97 : decode prog_7_method_16_code 97 = .ok (.iload 5, 2) := by decide +kernel
theorem dR_work_99 : decode prog_7_method_16_code 99 = .ok (.aload_n 0, 1) := by decide +kernel
theorem dR_work_100 : decode prog_7_method_16_code 100 = .ok (.getfield 25, 3) := by decide +kernel
theorem dR_work_103 : decode prog_7_method_16_code 103 = .ok (.iload_n 1, 1) := by decide +kernel
theorem dR_work_104 : decode prog_7_method_16_code 104 = .ok (.laload, 1) := by decide +kernel
theorem dR_work_105 : decode prog_7_method_16_code 105 = .ok (.bipush 8, 2) := by decide +kernel
theorem dR_work_107 : decode prog_7_method_16_code 107 = .ok (.iload 4, 2) := by decide +kernel
theorem dR_work_109 : decode prog_7_method_16_code 109 = .ok (.imul, 1) := by decide +kernel
theorem dR_work_110 : decode prog_7_method_16_code 110 = .ok (.lshr, 1) := by decide +kernel
theorem dR_work_111 : decode prog_7_method_16_code 111 = .ok (.ldc2_w 97, 3) := by decide +kernel
theorem dR_work_114 : decode prog_7_method_16_code 114 = .ok (.land, 1) := by decide +kernel
theorem dR_work_115 : decode prog_7_method_16_code 115 = .ok (.l2i, 1) := by decide +kernel
theorem dR_work_116 : decode prog_7_method_16_code 116 = .ok (.iastore, 1) := by decide +kernel
theorem dR_work_117 : decode prog_7_method_16_code 117 = .ok (.iinc 4 1, 3) := by decide +kernel
theorem dR_work_120 : decode prog_7_method_16_code 120 = .ok (.goto (-115), 3) := by decide +kernel
theorem dR_work_123 : decode prog_7_method_16_code 123 = .ok (.aload_n 0, 1) := by decide +kernel
theorem dR_work_124 : decode prog_7_method_16_code 124 = .ok (.getfield 25, 3) := by decide +kernel
theorem dR_work_127 : decode prog_7_method_16_code 127 = .ok (.iload_n 1, 1) := by decide +kernel
theorem dR_work_128 : decode prog_7_method_16_code 128 = .ok (.lload_n 2, 1) := by decide +kernel
theorem dR_work_129 : decode prog_7_method_16_code 129 = .ok (.lastore, 1) := by decide +kernel
theorem dR_work_130 : decode prog_7_method_16_code 130 = .ok (.return_, 1) := by decide +kernel
theorem dR_serve_0 : decode prog_7_method_17_code 0 = .ok (.aload_n 0, 1) := by decide +kernel
theorem dR_serve_1 : decode prog_7_method_17_code 1 = .ok (.iconst 3, 1) := by decide +kernel
theorem dR_serve_2 : decode prog_7_method_17_code 2 = .ok (.iconst (-1), 1) := by decide +kernel
theorem dR_serve_3 : decode prog_7_method_17_code 3 = .ok (.iload_n 1, 1) := by decide +kernel
theorem dR_serve_4 : decode prog_7_method_17_code 4 = .ok (.isub, 1) := by decide +kernel
theorem dR_serve_5 : decode prog_7_method_17_code 5 = .ok (.invokevirtual 94, 3) := by decide +kernel
theorem dR_serve_8 : decode prog_7_method_17_code 8 = .ok (.istore_n 2, 1) := by decide +kernel
theorem dR_serve_9 : decode prog_7_method_17_code 9 = .ok (.iload_n 2, 1) := by decide +kernel
theorem dR_serve_10 : decode prog_7_method_17_code 10 = .ok (.ifCond .lt 103, 3) := by decide +kernel
theorem dR_serve_13 : decode prog_7_method_17_code 13 = .ok (.aload_n 0, 1) := by decide +kernel
theorem dR_serve_14 : decode prog_7_method_17_code 14 = .ok (.getfield 45, 3) := by decide +kernel
theorem dR_serve_17 : decode prog_7_method_17_code 17 = .ok (.iload_n 1, 1) := by decide +kernel
theorem dR_serve_18 : decode prog_7_method_17_code 18 = .ok (.aload_n 0, 1) := by decide +kernel
theorem dR_serve_19 : decode prog_7_method_17_code 19 = .ok (.getfield 45, 3) := by decide +kernel
theorem dR_serve_22 : decode prog_7_method_17_code 22 = .ok (.iload_n 1, 1) := by decide +kernel
theorem dR_serve_23 : decode prog_7_method_17_code 23 = .ok (.iaload, 1) := by decide +kernel
theorem dR_serve_24 : decode prog_7_method_17_code 24 = .ok (.ifCond .le 14, 3) := by decide +kernel
theorem dR_serve_27 : decode prog_7_method_17_code 27 = .ok (.aload_n 0, 1) := by decide +kernel
theorem dR_serve_28 : decode prog_7_method_17_code 28 = .ok (.getfield 45, 3) := by decide +kernel
theorem dR_serve_31 : decode prog_7_method_17_code 31 = .ok (.iload_n 1, 1) := by decide +kernel
theorem dR_serve_32 : decode prog_7_method_17_code 32 = .ok (.iaload, 1) := by decide +kernel
theorem dR_serve_33 : decode prog_7_method_17_code 33 = .ok (.iconst 1, 1) := by decide +kernel
theorem dR_serve_34 : decode prog_7_method_17_code 34 = .ok (.isub, 1) := by decide +kernel
theorem dR_serve_35 : decode prog_7_method_17_code 35 = .ok (.goto 4, 3) := by decide +kernel
theorem dR_serve_38 : decode prog_7_method_17_code 38 = .ok (.iconst 0, 1) := by decide +kernel
theorem dR_serve_39 : decode prog_7_method_17_code 39 = .ok (.iastore, 1) := by decide +kernel
theorem dR_serve_40 : decode prog_7_method_17_code 40 = .ok (.aload_n 0, 1) := by decide +kernel
theorem dR_serve_41 : decode prog_7_method_17_code 41 = .ok (.getfield 45, 3) := by decide +kernel
theorem dR_serve_44 : decode prog_7_method_17_code 44 = .ok (.iload_n 1, 1) := by decide +kernel
theorem dR_serve_45 : decode prog_7_method_17_code 45 = .ok (.iaload, 1) := by decide +kernel
theorem dR_serve_46 : decode prog_7_method_17_code 46 = .ok (.ifCond .gt 15, 3) := by decide +kernel
theorem dR_serve_49 : decode prog_7_method_17_code 49 = .ok (.aload_n 0, 1) := by decide +kernel
theorem dR_serve_50 : decode prog_7_method_17_code 50 = .ok (.iconst 4, 1) := by decide +kernel
theorem dR_serve_51 : decode prog_7_method_17_code 51 = .ok (.iconst (-1), 1) := by decide +kernel
theorem dR_serve_52 : decode prog_7_method_17_code 52 = .ok (.iload_n 1, 1) := by decide +kernel
theorem dR_serve_53 : decode prog_7_method_17_code 53 = .ok (.isub, 1) := by decide +kernel
theorem dR_serve_54 : decode prog_7_method_17_code 54 = .ok (.invokevirtual 87, 3) := by decide +kernel
theorem dR_serve_57 : decode prog_7_method_17_code 57 = .ok (.iconst 1, 1) := by decide +kernel
theorem dR_serve_58 : decode prog_7_method_17_code 58 = .ok (.if_icmp .le 4, 3) := by decide +kernel
theorem dR_serve_61 : decode prog_7_method_17_code 61 = .ok (.return_, 1) := by decide +kernel
theorem dR_serve_62 : decode prog_7_method_17_code 62 = .ok (.aload_n 0, 1) := by decide +kernel
theorem dR_serve_63 : decode prog_7_method_17_code 63 = .ok (.iload_n 2, 1) := by decide +kernel
theorem dR_serve_64 : decode prog_7_method_17_code 64 = .ok (.invokevirtual 99, 3) := by decide +kernel
theorem dR_serve_67 : decode prog_7_method_17_code 67 = .ok (.aload_n 0, 1) := by decide +kernel
theorem dR_serve_68 : decode prog_7_method_17_code 68 = .ok (.iload_n 2, 1) := by decide +kernel
theorem dR_serve_69 : decode prog_7_method_17_code 69 = .ok (.iconst 4, 1) := by decide +kernel
theorem dR_serve_70 : decode prog_7_method_17_code 70 = .ok (.invokevirtual 90, 3) := by decide +kernel
theorem dR_serve_73 : decode prog_7_method_17_code 73 = .ok (.aload_n 0, 1) := by decide +kernel
theorem dR_serve_74 : decode prog_7_method_17_code 74 = .ok (.getfield 54, 3) := by decide +kernel
theorem dR_serve_77 : decode prog_7_method_17_code 77 = .ok (.aload_n 0, 1) := by decide +kernel
theorem dR_serve_78 : decode prog_7_method_17_code 78 = .ok (.getfield 57, 3) := by decide +kernel
theorem dR_serve_81 : decode prog_7_method_17_code 81 = .ok (.iconst 3, 1) := by decide +kernel
theorem dR_serve_82 : decode prog_7_method_17_code 82 = .ok (.iaload, 1) := by decide +kernel
theorem dR_serve_83 : decode prog_7_method_17_code 83 = .ok (.bipush 32, 2) := by decide +kernel
theorem dR_serve_85 : decode prog_7_method_17_code 85 = .ok (.irem, 1) := by decide +kernel
theorem dR_serve_86 : decode prog_7_method_17_code 86 = .ok (.bipush 64, 2) := by decide +kernel
theorem dR_serve_88 : decode prog_7_method_17_code 88 = .ok (.iload_n 1, 1) := by decide +kernel
theorem dR_serve_89 : decode prog_7_method_17_code 89 = .ok (.imul, 1) := by decide +kernel
theorem dR_serve_90 : decode prog_7_method_17_code 90 = .ok (.iload_n 2, 1) := by decide +kernel
theorem dR_serve_91 : decode prog_7_method_17_code 91 = .ok (.iadd, 1) := by decide +kernel
theorem dR_serve_92 : decode prog_7_method_17_code 92 = .ok (.iastore, 1) := by decide +kernel
theorem dR_serve_93 : decode prog_7_method_17_code 93 = .ok (.aload_n 0, 1) := by decide +kernel
theorem dR_serve_94 : decode prog_7_method_17_code 94 = .ok (.getfield 57, 3) := by decide +kernel
theorem dR_serve_97 : decode prog_7_method_17_code 97 = .ok (.iconst 3, 1) := by decide +kernel
theorem dR_serve_98 : decode prog_7_method_17_code 98 = .ok (.dup2, 1) := by decide +kernel
theorem dR_serve_99 : decode prog_7_method_17_code 99 = .ok (.iaload, 1) := by decide +kernel
theorem dR_serve_100 : decode prog_7_method_17_code 100 = .ok (.iconst 1, 1) := by decide +kernel
theorem dR_serve_101 : decode prog_7_method_17_code 101 = .ok (.iadd, 1) := by decide +kernel
theorem dR_serve_102 : decode prog_7_method_17_code 102 = .ok (.iastore, 1) := by decide +kernel
theorem dR_serve_103 : decode prog_7_method_17_code 103 = .ok (.aload_n 0, 1) := by decide +kernel
theorem dR_serve_104 : decode prog_7_method_17_code 104 = .ok (.getfield 48, 3) := by decide +kernel
theorem dR_serve_107 : decode prog_7_method_17_code 107 = .ok (.iload_n 1, 1) := by decide +kernel
theorem dR_serve_108 : decode prog_7_method_17_code 108 = .ok (.dup2, 1) := by decide +kernel
theorem dR_serve_109 : decode prog_7_method_17_code 109 = .ok (.iaload, 1) := by decide +kernel
theorem dR_serve_110 : decode prog_7_method_17_code 110 = .ok (.iconst 1, 1) := by decide +kernel
theorem dR_serve_111 : decode prog_7_method_17_code 111 = .ok (.iadd, 1) := by decide +kernel
theorem dR_serve_112 : decode prog_7_method_17_code 112 = .ok (.iastore, 1) := by decide +kernel
theorem dR_serve_113 : decode prog_7_method_17_code 113 = .ok (.aload_n 0, 1) := by decide +kernel
theorem dR_serve_114 : decode prog_7_method_17_code 114 = .ok (.iconst 2, 1) := by decide +kernel
theorem dR_serve_115 : decode prog_7_method_17_code 115 = .ok (.iconst (-1), 1) := by decide +kernel
theorem dR_serve_116 : decode prog_7_method_17_code 116 = .ok (.iload_n 1, 1) := by decide +kernel
theorem dR_serve_117 : decode prog_7_method_17_code 117 = .ok (.isub, 1) := by decide +kernel
theorem dR_serve_118 : decode prog_7_method_17_code 118 = .ok (.invokevirtual 94, 3) := by decide +kernel
theorem dR_serve_121 : decode prog_7_method_17_code 121 = .ok (.istore_n 3, 1) := by decide +kernel
theorem dR_serve_122 : decode prog_7_method_17_code 122 = .ok (.iload_n 3, 1) := by decide +kernel
theorem dR_serve_123 : decode prog_7_method_17_code 123 = .ok (.ifCond .ge 4, 3) := by decide +kernel
theorem dR_serve_126 : decode prog_7_method_17_code 126 = .ok (.return_, 1) := by decide +kernel
theorem dR_serve_127 : decode prog_7_method_17_code 127 = .ok (.aload_n 0, 1) := by decide +kernel
theorem dR_serve_128 : decode prog_7_method_17_code 128 = .ok (.getfield 19, 3) := by decide +kernel
theorem dR_serve_131 : decode prog_7_method_17_code 131 = .ok (.iload_n 3, 1) := by decide +kernel
theorem dR_serve_132 : decode prog_7_method_17_code 132 = .ok (.iaload, 1) := by decide +kernel
theorem dR_serve_133 : decode prog_7_method_17_code 133 = .ok (.iload_n 1, 1) := by decide +kernel
theorem dR_serve_134 : decode prog_7_method_17_code 134 = .ok (.invokestatic 103, 3) := by decide +kernel
theorem dR_serve_137 : decode prog_7_method_17_code 137 = .ok (.idiv, 1) := by decide +kernel
theorem dR_serve_138 : decode prog_7_method_17_code 138 = .ok (.istore 4, 2) := by decide +kernel
theorem dR_serve_140 : decode prog_7_method_17_code 140 = .ok (.aload_n 0, 1) := by decide +kernel
theorem dR_serve_141 : decode prog_7_method_17_code 141 = .ok (.getfield 45, 3) := by decide +kernel
theorem dR_serve_144 : decode prog_7_method_17_code 144 = .ok (.iload_n 1, 1) := by decide +kernel
theorem dR_serve_145 : decode prog_7_method_17_code 145 = .ok (.iload_n 1, 1) := by decide +kernel
theorem dR_serve_146 : decode prog_7_method_17_code 146 = .ok (.invokestatic 106, 3) := by decide +kernel
theorem dR_serve_149 : decode prog_7_method_17_code 149 = .ok (.iload 4, 2) := by decide +kernel
theorem dR_serve_151 : decode prog_7_method_17_code 151 = .ok (.iconst 1, 1) := by decide +kernel
theorem dR_serve_152 : decode prog_7_method_17_code 152 = .ok (.if_icmp .le 8, 3) := by decide +kernel
theorem dR_serve_155 : decode prog_7_method_17_code 155 = .ok (.iload 4, 2) := by decide +kernel
theorem dR_serve_157 : decode prog_7_method_17_code 157 = .ok (.goto 4, 3) := by decide +kernel
theorem dR_serve_160 : decode prog_7_method_17_code 160 = .ok (.iconst 1, 1) := by decide +kernel
theorem dR_serve_161 : decode prog_7_method_17_code 161 = .ok (.iadd, 1) := by decide +kernel
theorem dR_serve_162 : decode prog_7_method_17_code 162 = .ok (.iastore, 1) := by decide +kernel
theorem dR_serve_163 : decode prog_7_method_17_code 163 = .ok (.aload_n 0, 1) := by decide +kernel
theorem dR_serve_164 : decode prog_7_method_17_code 164 = .ok (.iload_n 3, 1) := by decide +kernel
theorem dR_serve_165 : decode prog_7_method_17_code 165 = .ok (.iconst 3, 1) := by decide +kernel
theorem dR_serve_166 : decode prog_7_method_17_code 166 = .ok (.invokevirtual 90, 3) := by decide +kernel
theorem dR_serve_169 : decode prog_7_method_17_code 169 = .ok (.return_, 1) := by decide +kernel
theorem dR_fetch_0 : decode prog_7_method_18_code 0 = .ok (.aload_n 0, 1) := by decide +kernel
theorem dR_fetch_1 : decode prog_7_method_18_code 1 = .ok (.iload_n 1, 1) := by decide +kernel
theorem dR_fetch_2 : decode prog_7_method_18_code 2 = .ok (.invokevirtual 109, 3) := by decide +kernel
theorem dR_fetch_5 : decode prog_7_method_18_code 5 = .ok (.istore_n 2, 1) := by decide +kernel
theorem dR_fetch_6 : decode prog_7_method_18_code 6 = .ok (.iload_n 2, 1) := by decide +kernel
theorem dR_fetch_7 : decode prog_7_method_18_code 7 = .ok (.ifCond .lt 15, 3) := by decide +kernel
theorem dR_fetch_10 : decode prog_7_method_18_code 10 = .ok (.aload_n 0, 1) := by decide +kernel
theorem dR_fetch_11 : decode prog_7_method_18_code 11 = .ok (.iconst 2, 1) := by decide +kernel
theorem dR_fetch_12 : decode prog_7_method_18_code 12 = .ok (.iconst (-1), 1) := by decide +kernel
theorem dR_fetch_13 : decode prog_7_method_18_code 13 = .ok (.iload_n 1, 1) := by decide +kernel
theorem dR_fetch_14 : decode prog_7_method_18_code 14 = .ok (.isub, 1) := by decide +kernel
theorem dR_fetch_15 : decode prog_7_method_18_code 15 = .ok (.invokevirtual 87, 3) := by decide +kernel
theorem dR_fetch_18 : decode prog_7_method_18_code 18 = .ok (.iconst 1, 1) := by decide +kernel
theorem dR_fetch_19 : decode prog_7_method_18_code 19 = .ok (.if_icmp .le 4, 3) := by decide +kernel
theorem dR_fetch_22 : decode prog_7_method_18_code 22 = .ok (.return_, 1) := by decide +kernel
theorem dR_fetch_23 : decode prog_7_method_18_code 23 = .ok (.iconst 0, 1) := by decide +kernel
theorem dR_fetch_24 : decode prog_7_method_18_code 24 = .ok (.istore_n 3, 1) := by decide +kernel
theorem dR_fetch_25 : decode prog_7_method_18_code 25 = .ok (.iload_n 3, 1) := by decide +kernel
theorem dR_fetch_26 : decode prog_7_method_18_code 26 = .ok (.iconst 3, 1) := by decide +kernel
theorem dR_fetch_27 : decode prog_7_method_18_code 27 = .ok (.if_icmp .ge 90, 3) := by decide +kernel
theorem dR_fetch_30 : decode prog_7_method_18_code 30 = .ok (.aload_n 0, 1) := by decide +kernel
theorem dR_fetch_31 : decode prog_7_method_18_code 31 = .ok (.getfield 42, 3) := by decide +kernel
theorem dR_fetch_34 : decode prog_7_method_18_code 34 = .ok (.iload_n 1, 1) := by decide +kernel
theorem dR_fetch_35 : decode prog_7_method_18_code 35 = .ok (.iaload, 1) := by decide +kernel
theorem dR_fetch_36 : decode prog_7_method_18_code 36 = .ok (.iload_n 3, 1) := by decide +kernel
theorem dR_fetch_37 : decode prog_7_method_18_code 37 = .ok (.iadd, 1) := by decide +kernel
theorem dR_fetch_38 : decode prog_7_method_18_code 38 = .ok (.iconst 3, 1) := by decide +kernel
theorem dR_fetch_39 : decode prog_7_method_18_code 39 = .ok (.irem, 1) := by decide +kernel
theorem dR_fetch_40 : decode prog_7_method_18_code 40 = .ok (.istore 4, 2) := by decide +kernel
theorem dR_fetch_42 : decode prog_7_method_18_code 42 = .ok (.aload_n 0, 1) := by decide +kernel
theorem dR_fetch_43 : decode prog_7_method_18_code 43 = .ok (.iconst 1, 1) := by decide +kernel
theorem dR_fetch_44 : decode prog_7_method_18_code 44 = .ok (.iload 4, 2) := by decide +kernel
theorem dR_fetch_46 : decode prog_7_method_18_code 46 = .ok (.invokevirtual 94, 3) := by decide +kernel
theorem dR_fetch_49 : decode prog_7_method_18_code 49 = .ok (.istore 5, 2) := by decide +kernel
theorem dR_fetch_51 : decode prog_7_method_18_code 51 = .ok (.iload 5, 2) := by decide +kernel
theorem dR_fetch_53 : decode prog_7_method_18_code 53 = .ok (.ifCond .lt 58, 3) := by decide +kernel
theorem dR_fetch_56 : decode prog_7_method_18_code 56 = .ok (.aload_n 0, 1) := by decide +kernel
theorem dR_fetch_57 : decode prog_7_method_18_code 57 = .ok (.getfield 22, 3) := by decide +kernel
theorem dR_fetch_60 : decode prog_7_method_18_code 60 = .ok (.iload 5, 2) := by decide +kernel
theorem dR_fetch_62 : decode prog_7_method_18_code 62 = .ok (.iaload, 1) := by decide +kernel
theorem dR_fetch_63 : decode prog_7_method_18_code 63 = .ok (.invokestatic 64, 3) := by decide +kernel
theorem dR_fetch_66 : decode prog_7_method_18_code 66 = .ok (.iload_n 1, 1) := by decide +kernel
theorem dR_fetch_67 : decode prog_7_method_18_code 67 = .ok (.if_icmp .eq 6, 3) := by decide +kernel
theorem dR_fetch_70 : decode prog_7_method_18_code 70 = .ok (.goto 41, 3) := by decide +kernel
theorem dR_fetch_73 : decode prog_7_method_18_code 73 = .ok (.aload_n 0, 1) := by decide +kernel
theorem dR_fetch_74 : decode prog_7_method_18_code 74 = .ok (.getfield 42, 3) := by decide +kernel
theorem dR_fetch_77 : decode prog_7_method_18_code 77 = .ok (.iload_n 1, 1) := by decide +kernel
theorem dR_fetch_78 : decode prog_7_method_18_code 78 = .ok (.iload 4, 2) := by decide +kernel
theorem dR_fetch_80 : decode prog_7_method_18_code 80 = .ok (.iconst 1, 1) := by decide +kernel
theorem dR_fetch_81 : decode prog_7_method_18_code 81 = .ok (.iadd, 1) := by decide +kernel
theorem dR_fetch_82 : decode prog_7_method_18_code 82 = .ok (.iconst 3, 1) := by decide +kernel
theorem dR_fetch_83 : decode prog_7_method_18_code 83 = .ok (.irem, 1) := by decide +kernel
theorem dR_fetch_84 : decode prog_7_method_18_code 84 = .ok (.iastore, 1) := by decide +kernel
theorem dR_fetch_85 : decode prog_7_method_18_code 85 = .ok (.aload_n 0, 1) := by decide +kernel
theorem dR_fetch_86 : decode prog_7_method_18_code 86 = .ok (.getfield 32, 3) := by decide +kernel
theorem dR_fetch_89 : decode prog_7_method_18_code 89 = .ok (.iload 5, 2) := by decide +kernel
theorem dR_fetch_91 : decode prog_7_method_18_code 91 = .ok (.iload_n 2, 1) := by decide +kernel
theorem dR_fetch_92 : decode prog_7_method_18_code 92 = .ok (.iastore, 1) := by decide +kernel
theorem dR_fetch_93 : decode prog_7_method_18_code 93 = .ok (.aload_n 0, 1) := by decide +kernel
theorem dR_fetch_94 : decode prog_7_method_18_code 94 = .ok (.iload 5, 2) := by decide +kernel
theorem dR_fetch_96 : decode prog_7_method_18_code 96 = .ok (.iconst 2, 1) := by decide +kernel
theorem dR_fetch_97 : decode prog_7_method_18_code 97 = .ok (.invokevirtual 90, 3) := by decide +kernel
theorem dR_fetch_100 : decode prog_7_method_18_code 100 = .ok (.aload_n 0, 1) := by decide +kernel
theorem dR_fetch_101 : decode prog_7_method_18_code 101 = .ok (.getfield 57, 3) := by decide +kernel
theorem dR_fetch_104 : decode prog_7_method_18_code 104 = .ok (.iconst 2, 1) := by decide +kernel
theorem dR_fetch_105 : decode prog_7_method_18_code 105 = .ok (.dup2, 1) := by decide +kernel
theorem dR_fetch_106 : decode prog_7_method_18_code 106 = .ok (.iaload, 1) := by decide +kernel
theorem dR_fetch_107 : decode prog_7_method_18_code 107 = .ok (.iconst 1, 1) := by decide +kernel
theorem dR_fetch_108 : decode prog_7_method_18_code 108 = .ok (.iadd, 1) := by decide +kernel
theorem dR_fetch_109 : decode prog_7_method_18_code 109 = .ok (.iastore, 1) := by decide +kernel
theorem dR_fetch_110 : decode prog_7_method_18_code 110 = .ok (.return_, 1) := by decide +kernel
theorem dR_fetch_111 : decode prog_7_method_18_code 111 = .ok (.iinc 3 1, 3) := by decide +kernel
theorem dR_fetch_114 : decode prog_7_method_18_code 114 = .ok (.goto (-89), 3) := by decide +kernel
theorem dR_fetch_117 : decode prog_7_method_18_code 117 = .ok (.return_, 1) := by decide +kernel
theorem dR_tick_0 : decode prog_7_method_19_code 0 = .ok (.aload_n 0, 1) := by decide +kernel
theorem dR_tick_1 : decode prog_7_method_19_code 1 = .ok (.iload_n 1, 1) := by decide +kernel
theorem dR_tick_2 : decode prog_7_method_19_code 2 = .ok (.ifCond .lt 14, 3) := by decide +kernel
theorem dR_tick_5 : decode prog_7_method_19_code 5 = .ok (.iload_n 1, 1) := by decide +kernel
theorem dR_tick_6 : decode prog_7_method_19_code 6 = .ok (.sipush 10000, 3) := by decide +kernel
theorem dR_tick_9 : decode prog_7_method_19_code 9 = .ok (.if_icmp .gt 7, 3) := by decide +kernel
theorem dR_tick_12 : decode prog_7_method_19_code 12 = .ok (.iconst 0, 1) := by decide +kernel
theorem dR_tick_13 : decode prog_7_method_19_code 13 = .ok (.goto 4, 3) := by decide +kernel
theorem dR_tick_16 : decode prog_7_method_19_code 16 = .ok (.iconst 1, 1) := by decide +kernel
theorem dR_tick_17 : decode prog_7_method_19_code 17 = .ok (.putfield 60, 3) := by decide +kernel
theorem dR_tick_20 : decode prog_7_method_19_code 20 = .ok (.aload_n 0, 1) := by decide +kernel
theorem dR_tick_21 : decode prog_7_method_19_code 21 = .ok (.getfield 60, 3) := by decide +kernel
theorem dR_tick_24 : decode prog_7_method_19_code 24 = .ok (.ifCond .le 5, 3) := by decide +kernel
theorem dR_tick_27 : decode prog_7_method_19_code 27 = .ok (.iconst 0, 1) := by decide +kernel
theorem dR_tick_28 : decode prog_7_method_19_code 28 = .ok (.ireturn, 1) := by decide +kernel
theorem dR_tick_29 : decode prog_7_method_19_code 29 = .ok (.iconst 0, 1) := by decide +kernel
theorem dR_tick_30 : decode prog_7_method_19_code 30 = .ok (.istore_n 2, 1) := by decide +kernel
theorem dR_tick_31 : decode prog_7_method_19_code 31 = .ok (.iload_n 2, 1) := by decide +kernel
theorem dR_tick_32 : decode prog_7_method_19_code 32 = .ok (.iload_n 1, 1) := by decide +kernel
theorem dR_tick_33 : decode prog_7_method_19_code 33 = .ok (.if_icmp .ge 100, 3) := by decide +kernel
theorem dR_tick_36 : decode prog_7_method_19_code 36 = .ok (.aload_n 0, 1) := by decide +kernel
theorem dR_tick_37 : decode prog_7_method_19_code 37 = .ok (.iconst 0, 1) := by decide +kernel
theorem dR_tick_38 : decode prog_7_method_19_code 38 = .ok (.putfield 75, 3) := by decide +kernel
theorem dR_tick_41 : decode prog_7_method_19_code 41 = .ok (.iconst 0, 1) := by decide +kernel
theorem dR_tick_42 : decode prog_7_method_19_code 42 = .ok (.istore_n 3, 1) := by decide +kernel
theorem dR_tick_43 : decode prog_7_method_19_code 43 = .ok (.iload_n 3, 1) := by decide +kernel
theorem dR_tick_44 : decode prog_7_method_19_code 44 = .ok (.iconst 3, 1) := by decide +kernel
theorem dR_tick_45 : decode prog_7_method_19_code 45 = .ok (.if_icmp .ge 14, 3) := by decide +kernel
theorem dR_tick_48 : decode prog_7_method_19_code 48 = .ok (.aload_n 0, 1) := by decide +kernel
theorem dR_tick_49 : decode prog_7_method_19_code 49 = .ok (.iload_n 3, 1) := by decide +kernel
theorem dR_tick_50 : decode prog_7_method_19_code 50 = .ok (.invokevirtual 112, 3) := by decide +kernel
theorem dR_tick_53 : decode prog_7_method_19_code 53 = .ok (.iinc 3 1, 3) := by decide +kernel
theorem dR_tick_56 : decode prog_7_method_19_code 56 = .ok (.goto (-13), 3) := by decide +kernel
theorem dR_tick_59 : decode prog_7_method_19_code 59 = .ok (.iconst 0, 1) := by decide +kernel
theorem dR_tick_60 : decode prog_7_method_19_code 60 = .ok (.istore_n 3, 1) := by decide +kernel
theorem dR_tick_61 : decode prog_7_method_19_code 61 = .ok (.iload_n 3, 1) := by decide +kernel
theorem dR_tick_62 : decode prog_7_method_19_code 62 = .ok (.iconst 4, 1) := by decide +kernel
theorem dR_tick_63 : decode prog_7_method_19_code 63 = .ok (.if_icmp .ge 14, 3) := by decide +kernel
theorem dR_tick_66 : decode prog_7_method_19_code 66 = .ok (.aload_n 0, 1) := by decide +kernel
theorem dR_tick_67 : decode prog_7_method_19_code 67 = .ok (.iload_n 3, 1) := by decide +kernel
theorem dR_tick_68 : decode prog_7_method_19_code 68 = .ok (.invokevirtual 115, 3) := by decide +kernel
theorem dR_tick_71 : decode prog_7_method_19_code 71 = .ok (.iinc 3 1, 3) := by decide +kernel
theorem dR_tick_74 : decode prog_7_method_19_code 74 = .ok (.goto (-13), 3) := by decide +kernel
theorem dR_tick_77 : decode prog_7_method_19_code 77 = .ok (.iconst 0, 1) := by decide +kernel
theorem dR_tick_78 : decode prog_7_method_19_code 78 = .ok (.istore_n 3, 1) := by decide +kernel
theorem dR_tick_79 : decode prog_7_method_19_code 79 = .ok (.iload_n 3, 1) := by decide +kernel
theorem dR_tick_80 : decode prog_7_method_19_code 80 = .ok (.iconst 4, 1) := by decide +kernel
theorem dR_tick_81 : decode prog_7_method_19_code 81 = .ok (.if_icmp .ge 14, 3) := by decide +kernel
theorem dR_tick_84 : decode prog_7_method_19_code 84 = .ok (.aload_n 0, 1) := by decide +kernel
theorem dR_tick_85 : decode prog_7_method_19_code 85 = .ok (.iload_n 3, 1) := by decide +kernel
theorem dR_tick_86 : decode prog_7_method_19_code 86 = .ok (.invokevirtual 118, 3) := by decide +kernel
theorem dR_tick_89 : decode prog_7_method_19_code 89 = .ok (.iinc 3 1, 3) := by decide +kernel
theorem dR_tick_92 : decode prog_7_method_19_code 92 = .ok (.goto (-13), 3) := by decide +kernel
theorem dR_tick_95 : decode prog_7_method_19_code 95 = .ok (.aload_n 0, 1) := by decide +kernel
theorem dR_tick_96 : decode prog_7_method_19_code 96 = .ok (.getfield 57, 3) := by decide +kernel
theorem dR_tick_99 : decode prog_7_method_19_code 99 = .ok (.iconst 0, 1) := by decide +kernel
theorem dR_tick_100 : decode prog_7_method_19_code 100 = .ok (.dup2, 1) := by decide +kernel
theorem dR_tick_101 : decode prog_7_method_19_code 101 = .ok (.iaload, 1) := by decide +kernel
theorem dR_tick_102 : decode prog_7_method_19_code 102 = .ok (.iconst 1, 1) := by decide +kernel
theorem dR_tick_103 : decode prog_7_method_19_code 103 = .ok (.iadd, 1) := by decide +kernel
theorem dR_tick_104 : decode prog_7_method_19_code 104 = .ok (.iastore, 1) := by decide +kernel
theorem dR_tick_105 : decode prog_7_method_19_code 105 = .ok (.aload_n 0, 1) := by decide +kernel
theorem dR_tick_106 : decode prog_7_method_19_code 106 = .ok (.getfield 57, 3) := by decide +kernel
theorem dR_tick_109 : decode prog_7_method_19_code 109 = .ok (.bipush 7, 2) := by decide +kernel
theorem dR_tick_111 : decode prog_7_method_19_code 111 = .ok (.dup2, 1) := by decide +kernel
theorem dR_tick_112 : decode prog_7_method_19_code 112 = .ok (.iaload, 1) := by decide +kernel
theorem dR_tick_113 : decode prog_7_method_19_code 113 = .ok (.aload_n 0, 1) := by decide +kernel
theorem dR_tick_114 : decode prog_7_method_19_code 114 = .ok (.getfield 75, 3) := by decide +kernel
theorem dR_tick_117 : decode prog_7_method_19_code 117 = .ok (.ifCond .eq 7, 3) := by decide +kernel
theorem dR_tick_120 : decode prog_7_method_19_code 120 = .ok (.iconst 0, 1) := by decide +kernel
theorem dR_tick_121 : decode prog_7_method_19_code 121 = .ok (.goto 4, 3) := by decide +kernel
theorem dR_tick_124 : decode prog_7_method_19_code 124 = .ok (.iconst 1, 1) := by decide +kernel
theorem dR_tick_125 : decode prog_7_method_19_code 125 = .ok (.iadd, 1) := by decide +kernel
theorem dR_tick_126 : decode prog_7_method_19_code 126 = .ok (.iastore, 1) := by decide +kernel
theorem dR_tick_127 : decode prog_7_method_19_code 127 = .ok (.iinc 2 1, 3) := by decide +kernel
theorem dR_tick_130 : decode prog_7_method_19_code 130 = .ok (.goto (-99), 3) := by decide +kernel
theorem dR_tick_133 : decode prog_7_method_19_code 133 = .ok (.aload_n 0, 1) := by decide +kernel
theorem dR_tick_134 : decode prog_7_method_19_code 134 = .ok (.getfield 57, 3) := by decide +kernel
theorem dR_tick_137 : decode prog_7_method_19_code 137 = .ok (.iconst 0, 1) := by decide +kernel
theorem dR_tick_138 : decode prog_7_method_19_code 138 = .ok (.iaload, 1) := by decide +kernel
theorem dR_tick_139 : decode prog_7_method_19_code 139 = .ok (.ireturn, 1) := by decide +kernel
theorem dR_take_0 : decode prog_7_method_20_code 0 = .ok (.aload_n 0, 1) := by decide +kernel
theorem dR_take_1 : decode prog_7_method_20_code 1 = .ok (.iload_n 1, 1) := by decide +kernel
theorem dR_take_2 : decode prog_7_method_20_code 2 = .ok (.iconst 3, 1) := by decide +kernel
theorem dR_take_3 : decode prog_7_method_20_code 3 = .ok (.invokestatic 83, 3) := by decide +kernel
theorem dR_take_6 : decode prog_7_method_20_code 6 = .ok (.ifCond .eq 7, 3) := by decide +kernel
theorem dR_take_9 : decode prog_7_method_20_code 9 = .ok (.iconst 0, 1) := by decide +kernel
theorem dR_take_10 : decode prog_7_method_20_code 10 = .ok (.goto 4, 3) := by decide +kernel
theorem dR_take_13 : decode prog_7_method_20_code 13 = .ok (.iconst 1, 1) := by decide +kernel
theorem dR_take_14 : decode prog_7_method_20_code 14 = .ok (.putfield 60, 3) := by decide +kernel
theorem dR_take_17 : decode prog_7_method_20_code 17 = .ok (.aload_n 0, 1) := by decide +kernel
theorem dR_take_18 : decode prog_7_method_20_code 18 = .ok (.getfield 60, 3) := by decide +kernel
theorem dR_take_21 : decode prog_7_method_20_code 21 = .ok (.ifCond .le 5, 3) := by decide +kernel
theorem dR_take_24 : decode prog_7_method_20_code 24 = .ok (.iconst 0, 1) := by decide +kernel
theorem dR_take_25 : decode prog_7_method_20_code 25 = .ok (.ireturn, 1) := by decide +kernel
theorem dR_take_26 : decode prog_7_method_20_code 26 = .ok (.aload_n 0, 1) := by decide +kernel
theorem dR_take_27 : decode prog_7_method_20_code 27 = .ok (.iconst 5, 1) := by decide +kernel
theorem dR_take_28 : decode prog_7_method_20_code 28 = .ok (.iload_n 1, 1) := by decide +kernel
theorem dR_take_29 : decode prog_7_method_20_code 29 = .ok (.invokevirtual 94, 3) := by decide +kernel
theorem dR_take_32 : decode prog_7_method_20_code 32 = .ok (.istore_n 2, 1) := by decide +kernel
theorem dR_take_33 : decode prog_7_method_20_code 33 = .ok (.iload_n 2, 1) := by decide +kernel
theorem dR_take_34 : decode prog_7_method_20_code 34 = .ok (.ifCond .ge 5, 3) := by decide +kernel
theorem dR_take_37 : decode prog_7_method_20_code 37 = .ok (.iconst (-1), 1) := by decide +kernel
theorem dR_take_38 : decode prog_7_method_20_code 38 = .ok (.ireturn, 1) := by decide +kernel
theorem dR_take_39 : decode prog_7_method_20_code 39 = .ok (.aload_n 0, 1) := by decide +kernel
theorem dR_take_40 : decode prog_7_method_20_code 40 = .ok (.getfield 22, 3) := by decide +kernel
theorem dR_take_43 : decode prog_7_method_20_code 43 = .ok (.iload_n 2, 1) := by decide +kernel
theorem dR_take_44 : decode prog_7_method_20_code 44 = .ok (.iaload, 1) := by decide +kernel
theorem dR_take_45 : decode prog_7_method_20_code 45 = .ok (.sipush 640, 3) := by decide +kernel
theorem dR_take_48 : decode prog_7_method_20_code 48 = .ok (.if_icmp .lt 7, 3) := by decide +kernel
theorem dR_take_51 : decode prog_7_method_20_code 51 = .ok (.iconst 1, 1) := by decide +kernel
theorem dR_take_52 : decode prog_7_method_20_code 52 = .ok (.goto 4, 3) := by decide +kernel
theorem dR_take_55 : decode prog_7_method_20_code 55 = .ok (.iconst 0, 1) := by decide +kernel
theorem dR_take_56 : decode prog_7_method_20_code 56 = .ok (.istore_n 3, 1) := by decide +kernel
theorem dR_take_57 : decode prog_7_method_20_code 57 = .ok (.aload_n 0, 1) := by decide +kernel
theorem dR_take_58 : decode prog_7_method_20_code 58 = .ok (.getfield 7, 3) := by decide +kernel
theorem dR_take_61 : decode prog_7_method_20_code 61 = .ok (.iload_n 2, 1) := by decide +kernel
theorem dR_take_62 : decode prog_7_method_20_code 62 = .ok (.iconst 0, 1) := by decide +kernel
theorem dR_take_63 : decode prog_7_method_20_code 63 = .ok (.iastore, 1) := by decide +kernel
theorem dR_take_64 : decode prog_7_method_20_code 64 = .ok (.aload_n 0, 1) := by decide +kernel
theorem dR_take_65 : decode prog_7_method_20_code 65 = .ok (.getfield 57, 3) := by decide +kernel
theorem dR_take_68 : decode prog_7_method_20_code 68 = .ok (.iconst 5, 1) := by decide +kernel
theorem dR_take_69 : decode prog_7_method_20_code 69 = .ok (.dup2, 1) := by decide +kernel
theorem dR_take_70 : decode prog_7_method_20_code 70 = .ok (.iaload, 1) := by decide +kernel
theorem dR_take_71 : decode prog_7_method_20_code 71 = .ok (.iconst 1, 1) := by decide +kernel
theorem dR_take_72 : decode prog_7_method_20_code 72 = .ok (.iadd, 1) := by decide +kernel
theorem dR_take_73 : decode prog_7_method_20_code 73 = .ok (.iastore, 1) := by decide +kernel
theorem dR_take_74 : decode prog_7_method_20_code 74 = .ok (.aload_n 0, 1) := by decide +kernel
theorem dR_take_75 : decode prog_7_method_20_code 75 = .ok (.getfield 57, 3) := by decide +kernel
theorem dR_take_78 : decode prog_7_method_20_code 78 = .ok (.bipush 6, 2) := by decide +kernel
theorem dR_take_80 : decode prog_7_method_20_code 80 = .ok (.dup2, 1) := by decide +kernel
theorem dR_take_81 : decode prog_7_method_20_code 81 = .ok (.iaload, 1) := by decide +kernel
theorem dR_take_82 : decode prog_7_method_20_code 82 = .ok (.iload_n 3, 1) := by decide +kernel
theorem dR_take_83 : decode prog_7_method_20_code 83 = .ok (.ifCond .eq 7, 3) := by decide +kernel
theorem dR_take_86 : decode prog_7_method_20_code 86 = .ok (.iconst 1, 1) := by decide +kernel
theorem dR_take_87 : decode prog_7_method_20_code 87 = .ok (.goto 4, 3) := by decide +kernel
theorem dR_take_90 : decode prog_7_method_20_code 90 = .ok (.iconst 0, 1) := by decide +kernel
theorem dR_take_91 : decode prog_7_method_20_code 91 = .ok (.iadd, 1) := by decide +kernel
theorem dR_take_92 : decode prog_7_method_20_code 92 = .ok (.iastore, 1) := by decide +kernel
theorem dR_take_93 : decode prog_7_method_20_code 93 = .ok (.aload_n 0, 1) := by decide +kernel
theorem dR_take_94 : decode prog_7_method_20_code 94 = .ok (.aload_n 0, 1) := by decide +kernel
theorem dR_take_95 : decode prog_7_method_20_code 95 = .ok (.getfield 25, 3) := by decide +kernel
theorem dR_take_98 : decode prog_7_method_20_code 98 = .ok (.iload_n 2, 1) := by decide +kernel
theorem dR_take_99 : decode prog_7_method_20_code 99 = .ok (.laload, 1) := by decide +kernel
theorem dR_take_100 : decode prog_7_method_20_code 100 = .ok (.putfield 121, 3) := by decide +kernel
theorem dR_take_103 : decode prog_7_method_20_code 103 = .ok (.iload_n 2, 1) := by decide +kernel
theorem dR_take_104 : decode prog_7_method_20_code 104 = .ok (.bipush 8, 2) := by decide +kernel
theorem dR_take_106 : decode prog_7_method_20_code 106 = .ok (.irem, 1) := by decide +kernel
theorem dR_take_107 : decode prog_7_method_20_code 107 = .ok (.bipush 8, 2) := by decide +kernel
theorem dR_take_109 : decode prog_7_method_20_code 109 = .ok (.aload_n 0, 1) := by decide +kernel
theorem dR_take_110 : decode prog_7_method_20_code 110 = .ok (.getfield 16, 3) := by decide +kernel
theorem dR_take_113 : decode prog_7_method_20_code 113 = .ok (.iload_n 2, 1) := by decide +kernel
theorem dR_take_114 : decode prog_7_method_20_code 114 = .ok (.iaload, 1) := by decide +kernel
theorem dR_take_115 : decode prog_7_method_20_code 115 = .ok (.imul, 1) := by decide +kernel
theorem dR_take_116 : decode prog_7_method_20_code 116 = .ok (.iadd, 1) := by decide +kernel
theorem dR_take_117 : decode prog_7_method_20_code 117 = .ok (.iload_n 3, 1) := by decide +kernel
theorem dR_take_118 : decode prog_7_method_20_code 118 = .ok (.ifCond .eq 8, 3) := by decide +kernel
theorem dR_take_121 : decode prog_7_method_20_code 121 = .ok (.bipush 32, 2) := by decide +kernel
theorem dR_take_123 : decode prog_7_method_20_code 123 = .ok (.goto 4, 3) := by decide +kernel
theorem dR_take_126 : decode prog_7_method_20_code 126 = .ok (.iconst 0, 1) := by decide +kernel
theorem dR_take_127 : decode prog_7_method_20_code 127 = .ok (.iadd, 1) := by decide +kernel
theorem dR_take_128 : decode prog_7_method_20_code 128 = .ok (.ireturn, 1) := by decide +kernel
theorem dR_data_0 : decode prog_7_method_21_code 0 = .ok (.aload_n 0, 1) := by decide +kernel
theorem dR_data_1 : decode prog_7_method_21_code 1 = .ok (.iconst 0, 1) := by decide +kernel
theorem dR_data_2 : decode prog_7_method_21_code 2 = .ok (.putfield 60, 3) := by decide +kernel
theorem dR_data_5 : decode prog_7_method_21_code 5 = .ok (.aload_n 0, 1) := by decide +kernel
theorem dR_data_6 : decode prog_7_method_21_code 6 = .ok (.getfield 121, 3) := by decide +kernel
theorem dR_data_9 : decode prog_7_method_21_code 9 = .ok (.lreturn, 1) := by decide +kernel
theorem dR_port_0 : decode prog_7_method_22_code 0 = .ok (.aload_n 0, 1) := by decide +kernel
theorem dR_port_1 : decode prog_7_method_22_code 1 = .ok (.iload_n 1, 1) := by decide +kernel
theorem dR_port_2 : decode prog_7_method_22_code 2 = .ok (.iconst 4, 1) := by decide +kernel
theorem dR_port_3 : decode prog_7_method_22_code 3 = .ok (.invokestatic 83, 3) := by decide +kernel
theorem dR_port_6 : decode prog_7_method_22_code 6 = .ok (.ifCond .ne 7, 3) := by decide +kernel
theorem dR_port_9 : decode prog_7_method_22_code 9 = .ok (.iconst 1, 1) := by decide +kernel
theorem dR_port_10 : decode prog_7_method_22_code 10 = .ok (.goto 16, 3) := by decide +kernel
theorem dR_port_13 : decode prog_7_method_22_code 13 = .ok (.iload_n 2, 1) := by decide +kernel
theorem dR_port_14 : decode prog_7_method_22_code 14 = .ok (.iconst 5, 1) := by decide +kernel
theorem dR_port_15 : decode prog_7_method_22_code 15 = .ok (.invokestatic 83, 3) := by decide +kernel
theorem dR_port_18 : decode prog_7_method_22_code 18 = .ok (.ifCond .ne 7, 3) := by decide +kernel
theorem dR_port_21 : decode prog_7_method_22_code 21 = .ok (.iconst 2, 1) := by decide +kernel
theorem dR_port_22 : decode prog_7_method_22_code 22 = .ok (.goto 4, 3) := by decide +kernel
theorem dR_port_25 : decode prog_7_method_22_code 25 = .ok (.iconst 0, 1) := by decide +kernel
theorem dR_port_26 : decode prog_7_method_22_code 26 = .ok (.putfield 60, 3) := by decide +kernel
theorem dR_port_29 : decode prog_7_method_22_code 29 = .ok (.aload_n 0, 1) := by decide +kernel
theorem dR_port_30 : decode prog_7_method_22_code 30 = .ok (.getfield 60, 3) := by decide +kernel
theorem dR_port_33 : decode prog_7_method_22_code 33 = .ok (.ifCond .le 5, 3) := by decide +kernel
theorem dR_port_36 : decode prog_7_method_22_code 36 = .ok (.iconst 0, 1) := by decide +kernel
theorem dR_port_37 : decode prog_7_method_22_code 37 = .ok (.ireturn, 1) := by decide +kernel
theorem dR_port_38 : decode prog_7_method_22_code 38 = .ok (.iload_n 2, 1) := by decide +kernel
theorem dR_port_39 : decode prog_7_method_22_code 39 = .ok (.tableswitch 96 0 3 #[29, 38, 60, 69], 29) := by decide +kernel
theorem dR_port_68 : decode prog_7_method_22_code 68 = .ok (.aload_n 0, 1) := by decide +kernel
theorem dR_port_69 : decode prog_7_method_22_code 69 = .ok (.iconst 2, 1) := by decide +kernel
theorem dR_port_70 : decode prog_7_method_22_code 70 = .ok (.iconst (-1), 1) := by decide +kernel
theorem dR_port_71 : decode prog_7_method_22_code 71 = .ok (.iload_n 1, 1) := by decide +kernel
theorem dR_port_72 : decode prog_7_method_22_code 72 = .ok (.isub, 1) := by decide +kernel
theorem dR_port_73 : decode prog_7_method_22_code 73 = .ok (.invokevirtual 87, 3) := by decide +kernel
theorem dR_port_76 : decode prog_7_method_22_code 76 = .ok (.ireturn, 1) := by decide +kernel
theorem dR_port_77 : decode prog_7_method_22_code 77 = .ok (.aload_n 0, 1) := by decide +kernel
theorem dR_port_78 : decode prog_7_method_22_code 78 = .ok (.iconst 3, 1) := by decide +kernel
theorem dR_port_79 : decode prog_7_method_22_code 79 = .ok (.iconst (-1), 1) := by decide +kernel
theorem dR_port_80 : decode prog_7_method_22_code 80 = .ok (.iload_n 1, 1) := by decide +kernel
theorem dR_port_81 : decode prog_7_method_22_code 81 = .ok (.isub, 1) := by decide +kernel
theorem dR_port_82 : decode prog_7_method_22_code 82 = .ok (.invokevirtual 87, 3) := by decide +kernel
theorem dR_port_85 : decode prog_7_method_22_code 85 = .ok (.ifCond .le 12, 3) := by decide +kernel
theorem dR_port_88 : decode prog_7_method_22_code 88 = .ok (.aload_n 0, 1) := by decide +kernel
theorem dR_port_89 : decode prog_7_method_22_code 89 = .ok (.getfield 45, 3) := by decide +kernel
theorem dR_port_92 : decode prog_7_method_22_code 92 = .ok (.iload_n 1, 1) := by decide +kernel
theorem dR_port_93 : decode prog_7_method_22_code 93 = .ok (.iaload, 1) := by decide +kernel
theorem dR_port_94 : decode prog_7_method_22_code 94 = .ok (.goto 4, 3) := by decide +kernel
theorem dR_port_97 : decode prog_7_method_22_code 97 = .ok (.iconst (-1), 1) := by decide +kernel
theorem dR_port_98 : decode prog_7_method_22_code 98 = .ok (.ireturn, 1) := by decide +kernel
theorem dR_port_99 : decode prog_7_method_22_code 99 = .ok (.aload_n 0, 1) := by decide +kernel
theorem dR_port_100 : decode prog_7_method_22_code 100 = .ok (.iconst 4, 1) := by decide +kernel
theorem dR_port_101 : decode prog_7_method_22_code 101 = .ok (.iconst (-1), 1) := by decide +kernel
theorem dR_port_102 : decode prog_7_method_22_code 102 = .ok (.iload_n 1, 1) := by decide +kernel
theorem dR_port_103 : decode prog_7_method_22_code 103 = .ok (.isub, 1) := by decide +kernel
theorem dR_port_104 : decode prog_7_method_22_code 104 = .ok (.invokevirtual 87, 3) := by decide +kernel
theorem dR_port_107 : decode prog_7_method_22_code 107 = .ok (.ireturn, 1) := by decide +kernel
theorem dR_port_108 : decode prog_7_method_22_code 108 = .ok (.aload_n 0, 1) := by decide +kernel
theorem dR_port_109 : decode prog_7_method_22_code 109 = .ok (.iconst 2, 1) := by decide +kernel
theorem dR_port_110 : decode prog_7_method_22_code 110 = .ok (.iconst (-1), 1) := by decide +kernel
theorem dR_port_111 : decode prog_7_method_22_code 111 = .ok (.iload_n 1, 1) := by decide +kernel
theorem dR_port_112 : decode prog_7_method_22_code 112 = .ok (.isub, 1) := by decide +kernel
theorem dR_port_113 : decode prog_7_method_22_code 113 = .ok (.invokevirtual 87, 3) := by decide +kernel
theorem dR_port_116 : decode prog_7_method_22_code 116 = .ok (.aload_n 0, 1) := by decide +kernel
theorem dR_port_117 : decode prog_7_method_22_code 117 = .ok (.iconst 3, 1) := by decide +kernel
theorem dR_port_118 : decode prog_7_method_22_code 118 = .ok (.iconst (-1), 1) := by decide +kernel
theorem dR_port_119 : decode prog_7_method_22_code 119 = .ok (.iload_n 1, 1) := by decide +kernel
theorem dR_port_120 : decode prog_7_method_22_code 120 = .ok (.isub, 1) := by decide +kernel
theorem dR_port_121 : decode prog_7_method_22_code 121 = .ok (.invokevirtual 87, 3) := by decide +kernel
theorem dR_port_124 : decode prog_7_method_22_code 124 = .ok (.iadd, 1) := by decide +kernel
theorem dR_port_125 : decode prog_7_method_22_code 125 = .ok (.aload_n 0, 1) := by decide +kernel
theorem dR_port_126 : decode prog_7_method_22_code 126 = .ok (.iconst 4, 1) := by decide +kernel
theorem dR_port_127 : decode prog_7_method_22_code 127 = .ok (.iconst (-1), 1) := by decide +kernel
theorem dR_port_128 : decode prog_7_method_22_code 128 = .ok (.iload_n 1, 1) := by decide +kernel
theorem dR_port_129 : decode prog_7_method_22_code 129 = .ok (.isub, 1) := by decide +kernel
theorem dR_port_130 : decode prog_7_method_22_code 130 = .ok (.invokevirtual 87, 3) := by decide +kernel
theorem dR_port_133 : decode prog_7_method_22_code 133 = .ok (.iadd, 1) := by decide +kernel
theorem dR_port_134 : decode prog_7_method_22_code 134 = .ok (.ireturn, 1) := by decide +kernel
theorem dR_port_135 : decode prog_7_method_22_code 135 = .ok (.aload_n 0, 1) := by decide +kernel
theorem dR_port_136 : decode prog_7_method_22_code 136 = .ok (.getfield 48, 3) := by decide +kernel
theorem dR_port_139 : decode prog_7_method_22_code 139 = .ok (.iload_n 1, 1) := by decide +kernel
theorem dR_port_140 : decode prog_7_method_22_code 140 = .ok (.iaload, 1) := by decide +kernel
theorem dR_port_141 : decode prog_7_method_22_code 141 = .ok (.ireturn, 1) := by decide +kernel
theorem dR_owner_0 : decode prog_7_method_23_code 0 = .ok (.aload_n 0, 1) := by decide +kernel
theorem dR_owner_1 : decode prog_7_method_23_code 1 = .ok (.iload_n 1, 1) := by decide +kernel
theorem dR_owner_2 : decode prog_7_method_23_code 2 = .ok (.iconst 4, 1) := by decide +kernel
theorem dR_owner_3 : decode prog_7_method_23_code 3 = .ok (.invokestatic 83, 3) := by decide +kernel
theorem dR_owner_6 : decode prog_7_method_23_code 6 = .ok (.ifCond .eq 15, 3) := by decide +kernel
theorem dR_owner_9 : decode prog_7_method_23_code 9 = .ok (.iload_n 2, 1) := by decide +kernel
theorem dR_owner_10 : decode prog_7_method_23_code 10 = .ok (.iconst 4, 1) := by decide +kernel
theorem dR_owner_11 : decode prog_7_method_23_code 11 = .ok (.invokestatic 83, 3) := by decide +kernel
theorem dR_owner_14 : decode prog_7_method_23_code 14 = .ok (.ifCond .eq 7, 3) := by decide +kernel
theorem dR_owner_17 : decode prog_7_method_23_code 17 = .ok (.iconst 0, 1) := by decide +kernel
theorem dR_owner_18 : decode prog_7_method_23_code 18 = .ok (.goto 4, 3) := by decide +kernel
theorem dR_owner_21 : decode prog_7_method_23_code 21 = .ok (.iconst 1, 1) := by decide +kernel
theorem dR_owner_22 : decode prog_7_method_23_code 22 = .ok (.putfield 60, 3) := by decide +kernel
theorem dR_owner_25 : decode prog_7_method_23_code 25 = .ok (.aload_n 0, 1) := by decide +kernel
theorem dR_owner_26 : decode prog_7_method_23_code 26 = .ok (.getfield 60, 3) := by decide +kernel
theorem dR_owner_29 : decode prog_7_method_23_code 29 = .ok (.ifCond .le 7, 3) := by decide +kernel
theorem dR_owner_32 : decode prog_7_method_23_code 32 = .ok (.iconst 0, 1) := by decide +kernel
theorem dR_owner_33 : decode prog_7_method_23_code 33 = .ok (.goto 9, 3) := by decide +kernel
theorem dR_owner_36 : decode prog_7_method_23_code 36 = .ok (.aload_n 0, 1) := by decide +kernel
theorem dR_owner_37 : decode prog_7_method_23_code 37 = .ok (.iload_n 1, 1) := by decide +kernel
theorem dR_owner_38 : decode prog_7_method_23_code 38 = .ok (.iload_n 2, 1) := by decide +kernel
theorem dR_owner_39 : decode prog_7_method_23_code 39 = .ok (.invokevirtual 79, 3) := by decide +kernel
theorem dR_owner_42 : decode prog_7_method_23_code 42 = .ok (.ireturn, 1) := by decide +kernel
theorem dR_master_0 : decode prog_7_method_24_code 0 = .ok (.aload_n 0, 1) := by decide +kernel
theorem dR_master_1 : decode prog_7_method_24_code 1 = .ok (.iload_n 1, 1) := by decide +kernel
theorem dR_master_2 : decode prog_7_method_24_code 2 = .ok (.iconst 3, 1) := by decide +kernel
theorem dR_master_3 : decode prog_7_method_24_code 3 = .ok (.invokestatic 83, 3) := by decide +kernel
theorem dR_master_6 : decode prog_7_method_24_code 6 = .ok (.ifCond .ne 7, 3) := by decide +kernel
theorem dR_master_9 : decode prog_7_method_24_code 9 = .ok (.iconst 1, 1) := by decide +kernel
theorem dR_master_10 : decode prog_7_method_24_code 10 = .ok (.goto 16, 3) := by decide +kernel
theorem dR_master_13 : decode prog_7_method_24_code 13 = .ok (.iload_n 2, 1) := by decide +kernel
theorem dR_master_14 : decode prog_7_method_24_code 14 = .ok (.iconst 4, 1) := by decide +kernel
theorem dR_master_15 : decode prog_7_method_24_code 15 = .ok (.invokestatic 83, 3) := by decide +kernel
theorem dR_master_18 : decode prog_7_method_24_code 18 = .ok (.ifCond .ne 7, 3) := by decide +kernel
theorem dR_master_21 : decode prog_7_method_24_code 21 = .ok (.iconst 2, 1) := by decide +kernel
theorem dR_master_22 : decode prog_7_method_24_code 22 = .ok (.goto 4, 3) := by decide +kernel
theorem dR_master_25 : decode prog_7_method_24_code 25 = .ok (.iconst 0, 1) := by decide +kernel
theorem dR_master_26 : decode prog_7_method_24_code 26 = .ok (.putfield 60, 3) := by decide +kernel
theorem dR_master_29 : decode prog_7_method_24_code 29 = .ok (.aload_n 0, 1) := by decide +kernel
theorem dR_master_30 : decode prog_7_method_24_code 30 = .ok (.getfield 60, 3) := by decide +kernel
theorem dR_master_33 : decode prog_7_method_24_code 33 = .ok (.ifCond .le 5, 3) := by decide +kernel
theorem dR_master_36 : decode prog_7_method_24_code 36 = .ok (.iconst 0, 1) := by decide +kernel
theorem dR_master_37 : decode prog_7_method_24_code 37 = .ok (.ireturn, 1) := by decide +kernel
theorem dR_master_38 : decode prog_7_method_24_code 38 = .ok (.iload_n 2, 1) := by decide +kernel
theorem dR_master_39 : decode prog_7_method_24_code 39 = .ok (.ifCond .ne 10, 3) := by decide +kernel
theorem dR_master_42 : decode prog_7_method_24_code 42 = .ok (.aload_n 0, 1) := by decide +kernel
theorem dR_master_43 : decode prog_7_method_24_code 43 = .ok (.iconst 1, 1) := by decide +kernel
theorem dR_master_44 : decode prog_7_method_24_code 44 = .ok (.iload_n 1, 1) := by decide +kernel
theorem dR_master_45 : decode prog_7_method_24_code 45 = .ok (.invokevirtual 87, 3) := by decide +kernel
theorem dR_master_48 : decode prog_7_method_24_code 48 = .ok (.ireturn, 1) := by decide +kernel
theorem dR_master_49 : decode prog_7_method_24_code 49 = .ok (.iload_n 2, 1) := by decide +kernel
theorem dR_master_50 : decode prog_7_method_24_code 50 = .ok (.iconst 1, 1) := by decide +kernel
theorem dR_master_51 : decode prog_7_method_24_code 51 = .ok (.if_icmp .ne 10, 3) := by decide +kernel
theorem dR_master_54 : decode prog_7_method_24_code 54 = .ok (.aload_n 0, 1) := by decide +kernel
theorem dR_master_55 : decode prog_7_method_24_code 55 = .ok (.iconst 5, 1) := by decide +kernel
theorem dR_master_56 : decode prog_7_method_24_code 56 = .ok (.iload_n 1, 1) := by decide +kernel
theorem dR_master_57 : decode prog_7_method_24_code 57 = .ok (.invokevirtual 87, 3) := by decide +kernel
theorem dR_master_60 : decode prog_7_method_24_code 60 = .ok (.ireturn, 1) := by decide +kernel
theorem dR_master_61 : decode prog_7_method_24_code 61 = .ok (.iload_n 2, 1) := by decide +kernel
theorem dR_master_62 : decode prog_7_method_24_code 62 = .ok (.iconst 3, 1) := by decide +kernel
theorem dR_master_63 : decode prog_7_method_24_code 63 = .ok (.if_icmp .ne 18, 3) := by decide +kernel
theorem dR_master_66 : decode prog_7_method_24_code 66 = .ok (.aload_n 0, 1) := by decide +kernel
theorem dR_master_67 : decode prog_7_method_24_code 67 = .ok (.getfield 35, 3) := by decide +kernel
theorem dR_master_70 : decode prog_7_method_24_code 70 = .ok (.iload_n 1, 1) := by decide +kernel
theorem dR_master_71 : decode prog_7_method_24_code 71 = .ok (.baload, 1) := by decide +kernel
theorem dR_master_72 : decode prog_7_method_24_code 72 = .ok (.ifCond .eq 7, 3) := by decide +kernel
theorem dR_master_75 : decode prog_7_method_24_code 75 = .ok (.iconst 0, 1) := by decide +kernel
theorem dR_master_76 : decode prog_7_method_24_code 76 = .ok (.goto 4, 3) := by decide +kernel
theorem dR_master_79 : decode prog_7_method_24_code 79 = .ok (.iconst 1, 1) := by decide +kernel
theorem dR_master_80 : decode prog_7_method_24_code 80 = .ok (.ireturn, 1) := by decide +kernel
theorem dR_master_81 : decode prog_7_method_24_code 81 = .ok (.iconst 0, 1) := by decide +kernel
theorem dR_master_82 : decode prog_7_method_24_code 82 = .ok (.istore_n 3, 1) := by decide +kernel
theorem dR_master_83 : decode prog_7_method_24_code 83 = .ok (.iconst 0, 1) := by decide +kernel
theorem dR_master_84 : decode prog_7_method_24_code 84 = .ok (.istore 4, 2) := by decide +kernel
theorem dR_master_86 : decode prog_7_method_24_code 86 = .ok (.iload 4, 2) := by decide +kernel
theorem dR_master_88 : decode prog_7_method_24_code 88 = .ok (.bipush 8, 2) := by decide +kernel
theorem dR_master_90 : decode prog_7_method_24_code 90 = .ok (.if_icmp .ge 35, 3) := by decide +kernel
theorem dR_master_93 : decode prog_7_method_24_code 93 = .ok (.iload_n 3, 1) := by decide +kernel
theorem dR_master_94 : decode prog_7_method_24_code 94 = .ok (.aload_n 0, 1) := by decide +kernel
theorem dR_master_95 : decode prog_7_method_24_code 95 = .ok (.getfield 7, 3) := by decide +kernel
theorem dR_master_98 : decode prog_7_method_24_code 98 = .ok (.bipush 8, 2) := by decide +kernel
theorem dR_master_100 : decode prog_7_method_24_code 100 = .ok (.iload_n 1, 1) := by decide +kernel
theorem dR_master_101 : decode prog_7_method_24_code 101 = .ok (.imul, 1) := by decide +kernel
theorem dR_master_102 : decode prog_7_method_24_code 102 = .ok (.iload 4, 2) := by decide +kernel
theorem dR_master_104 : decode prog_7_method_24_code 104 = .ok (.iadd, 1) := by decide +kernel
theorem dR_master_105 : decode prog_7_method_24_code 105 = .ok (.iaload, 1) := by decide +kernel
theorem dR_master_106 : decode prog_7_method_24_code 106 = .ok (.ifCond .eq 10, 3) := by decide +kernel
theorem dR_master_109 : decode prog_7_method_24_code 109 = .ok (.iconst 1, 1) := by decide +kernel
theorem dR_master_110 : decode prog_7_method_24_code 110 = .ok (.iload 4, 2) := by decide +kernel
theorem dR_master_112 : decode prog_7_method_24_code 112 = .ok (.ishl, 1) := by decide +kernel
theorem dR_master_113 : decode prog_7_method_24_code 113 = .ok (.goto 4, 3) := by decide +kernel
theorem dR_master_116 : decode prog_7_method_24_code 116 = .ok (.iconst 0, 1) := by decide +kernel
theorem dR_master_117 : decode prog_7_method_24_code 117 = .ok (.ior, 1) := by decide +kernel
theorem dR_master_118 : decode prog_7_method_24_code 118 = .ok (.istore_n 3, 1) := by decide +kernel
theorem dR_master_119 : decode prog_7_method_24_code 119 = .ok (.iinc 4 1, 3) := by decide +kernel
theorem dR_master_122 : decode prog_7_method_24_code 122 = .ok (.goto (-36), 3) := by decide +kernel
theorem dR_master_125 : decode prog_7_method_24_code 125 = .ok (.iload_n 3, 1) := by decide +kernel
theorem dR_master_126 : decode prog_7_method_24_code 126 = .ok (.ireturn, 1) := by decide +kernel
theorem dR_memory_0 : decode prog_7_method_25_code 0 = .ok (.aload_n 0, 1) := by decide +kernel
theorem dR_memory_1 : decode prog_7_method_25_code 1 = .ok (.iload_n 1, 1) := by decide +kernel
theorem dR_memory_2 : decode prog_7_method_25_code 2 = .ok (.sipush 640, 3) := by decide +kernel
theorem dR_memory_5 : decode prog_7_method_25_code 5 = .ok (.invokestatic 83, 3) := by decide +kernel
theorem dR_memory_8 : decode prog_7_method_25_code 8 = .ok (.ifCond .eq 7, 3) := by decide +kernel
theorem dR_memory_11 : decode prog_7_method_25_code 11 = .ok (.iconst 0, 1) := by decide +kernel
theorem dR_memory_12 : decode prog_7_method_25_code 12 = .ok (.goto 4, 3) := by decide +kernel
theorem dR_memory_15 : decode prog_7_method_25_code 15 = .ok (.iconst 1, 1) := by decide +kernel
theorem dR_memory_16 : decode prog_7_method_25_code 16 = .ok (.putfield 60, 3) := by decide +kernel
theorem dR_memory_19 : decode prog_7_method_25_code 19 = .ok (.aload_n 0, 1) := by decide +kernel
theorem dR_memory_20 : decode prog_7_method_25_code 20 = .ok (.getfield 60, 3) := by decide +kernel
theorem dR_memory_23 : decode prog_7_method_25_code 23 = .ok (.ifCond .le 7, 3) := by decide +kernel
theorem dR_memory_26 : decode prog_7_method_25_code 26 = .ok (.iconst 0, 1) := by decide +kernel
theorem dR_memory_27 : decode prog_7_method_25_code 27 = .ok (.goto 9, 3) := by decide +kernel
theorem dR_memory_30 : decode prog_7_method_25_code 30 = .ok (.aload_n 0, 1) := by decide +kernel
theorem dR_memory_31 : decode prog_7_method_25_code 31 = .ok (.getfield 51, 3) := by decide +kernel
theorem dR_memory_34 : decode prog_7_method_25_code 34 = .ok (.iload_n 1, 1) := by decide +kernel
theorem dR_memory_35 : decode prog_7_method_25_code 35 = .ok (.iaload, 1) := by decide +kernel
theorem dR_memory_36 : decode prog_7_method_25_code 36 = .ok (.ireturn, 1) := by decide +kernel
theorem dR_done_0 : decode prog_7_method_26_code 0 = .ok (.aload_n 0, 1) := by decide +kernel
theorem dR_done_1 : decode prog_7_method_26_code 1 = .ok (.iconst 0, 1) := by decide +kernel
theorem dR_done_2 : decode prog_7_method_26_code 2 = .ok (.putfield 60, 3) := by decide +kernel
theorem dR_done_5 : decode prog_7_method_26_code 5 = .ok (.iload_n 1, 1) := by decide +kernel
theorem dR_done_6 : decode prog_7_method_26_code 6 = .ok (.bipush 32, 2) := by decide +kernel
theorem dR_done_8 : decode prog_7_method_26_code 8 = .ok (.invokestatic 83, 3) := by decide +kernel
theorem dR_done_11 : decode prog_7_method_26_code 11 = .ok (.ifCond .eq 13, 3) := by decide +kernel
theorem dR_done_14 : decode prog_7_method_26_code 14 = .ok (.iload_n 1, 1) := by decide +kernel
theorem dR_done_15 : decode prog_7_method_26_code 15 = .ok (.aload_n 0, 1) := by decide +kernel
theorem dR_done_16 : decode prog_7_method_26_code 16 = .ok (.getfield 57, 3) := by decide +kernel
theorem dR_done_19 : decode prog_7_method_26_code 19 = .ok (.iconst 3, 1) := by decide +kernel
theorem dR_done_20 : decode prog_7_method_26_code 20 = .ok (.iaload, 1) := by decide +kernel
theorem dR_done_21 : decode prog_7_method_26_code 21 = .ok (.if_icmp .lt 5, 3) := by decide +kernel
theorem dR_done_24 : decode prog_7_method_26_code 24 = .ok (.iconst (-1), 1) := by decide +kernel
theorem dR_done_25 : decode prog_7_method_26_code 25 = .ok (.ireturn, 1) := by decide +kernel
theorem dR_done_26 : decode prog_7_method_26_code 26 = .ok (.aload_n 0, 1) := by decide +kernel
theorem dR_done_27 : decode prog_7_method_26_code 27 = .ok (.getfield 54, 3) := by decide +kernel
theorem dR_done_30 : decode prog_7_method_26_code 30 = .ok (.aload_n 0, 1) := by decide +kernel
theorem dR_done_31 : decode prog_7_method_26_code 31 = .ok (.getfield 57, 3) := by decide +kernel
theorem dR_done_34 : decode prog_7_method_26_code 34 = .ok (.iconst 3, 1) := by decide +kernel
theorem dR_done_35 : decode prog_7_method_26_code 35 = .ok (.iaload, 1) := by decide +kernel
theorem dR_done_36 : decode prog_7_method_26_code 36 = .ok (.iconst 1, 1) := by decide +kernel
theorem dR_done_37 : decode prog_7_method_26_code 37 = .ok (.isub, 1) := by decide +kernel
theorem dR_done_38 : decode prog_7_method_26_code 38 = .ok (.iload_n 1, 1) := by decide +kernel
theorem dR_done_39 : decode prog_7_method_26_code 39 = .ok (.isub, 1) := by decide +kernel
theorem dR_done_40 : decode prog_7_method_26_code 40 = .ok (.bipush 32, 2) := by decide +kernel
theorem dR_done_42 : decode prog_7_method_26_code 42 = .ok (.irem, 1) := by decide +kernel
theorem dR_done_43 : decode prog_7_method_26_code 43 = .ok (.iaload, 1) := by decide +kernel
theorem dR_done_44 : decode prog_7_method_26_code 44 = .ok (.ireturn, 1) := by decide +kernel
theorem dR_count_0 : decode prog_7_method_27_code 0 = .ok (.aload_n 0, 1) := by decide +kernel
theorem dR_count_1 : decode prog_7_method_27_code 1 = .ok (.iconst 0, 1) := by decide +kernel
theorem dR_count_2 : decode prog_7_method_27_code 2 = .ok (.putfield 60, 3) := by decide +kernel
theorem dR_count_5 : decode prog_7_method_27_code 5 = .ok (.iload_n 1, 1) := by decide +kernel
theorem dR_count_6 : decode prog_7_method_27_code 6 = .ok (.bipush 8, 2) := by decide +kernel
theorem dR_count_8 : decode prog_7_method_27_code 8 = .ok (.invokestatic 83, 3) := by decide +kernel
theorem dR_count_11 : decode prog_7_method_27_code 11 = .ok (.ifCond .eq 12, 3) := by decide +kernel
theorem dR_count_14 : decode prog_7_method_27_code 14 = .ok (.aload_n 0, 1) := by decide +kernel
theorem dR_count_15 : decode prog_7_method_27_code 15 = .ok (.getfield 57, 3) := by decide +kernel
theorem dR_count_18 : decode prog_7_method_27_code 18 = .ok (.iload_n 1, 1) := by decide +kernel
theorem dR_count_19 : decode prog_7_method_27_code 19 = .ok (.iaload, 1) := by decide +kernel
theorem dR_count_20 : decode prog_7_method_27_code 20 = .ok (.goto 4, 3) := by decide +kernel
theorem dR_count_23 : decode prog_7_method_27_code 23 = .ok (.iconst (-1), 1) := by decide +kernel
theorem dR_count_24 : decode prog_7_method_27_code 24 = .ok (.ireturn, 1) := by decide +kernel
