theorem dL_init_0 : decode prog_2_method_1_code 0 = .ok (.aload_n 0, 1) := by decide +kernel
theorem dL_init_1 : decode prog_2_method_1_code 1 = .ok (.invokespecial 3, 3) := by decide +kernel
theorem dL_init_4 : decode prog_2_method_1_code 4 = .ok (.aload_n 0, 1) := by decide +kernel
theorem dL_init_5 : decode prog_2_method_1_code 5 = .ok (.iload_n 1, 1) := by decide +kernel
theorem dL_init_6 : decode prog_2_method_1_code 6 = .ok (.newarray .int, 2) := by decide +kernel
theorem dL_init_8 : decode prog_2_method_1_code 8 = .ok (.putfield 9, 3) := by decide +kernel
theorem dL_init_11 : decode prog_2_method_1_code 11 = .ok (.aload_n 0, 1) := by decide +kernel
theorem dL_init_12 : decode prog_2_method_1_code 12 = .ok (.iconst 0, 1) := by decide +kernel
theorem dL_init_13 : decode prog_2_method_1_code 13 = .ok (.putfield 15, 3) := by decide +kernel
theorem dL_init_16 : decode prog_2_method_1_code 16 = .ok (.return_, 1) := by decide +kernel
theorem dL_isFull_0 : decode prog_2_method_2_code 0 = .ok (.aload_n 0, 1) := by decide +kernel
theorem dL_isFull_1 : decode prog_2_method_2_code 1 = .ok (.getfield 15, 3) := by decide +kernel
theorem dL_isFull_4 : decode prog_2_method_2_code 4 = .ok (.aload_n 0, 1) := by decide +kernel
theorem dL_isFull_5 : decode prog_2_method_2_code 5 = .ok (.getfield 9, 3) := by decide +kernel
theorem dL_isFull_8 : decode prog_2_method_2_code 8 = .ok (.arraylength, 1) := by decide +kernel
theorem dL_isFull_9 : decode prog_2_method_2_code 9 = .ok (.if_icmp .lt 7, 3) := by decide +kernel
theorem dL_isFull_12 : decode prog_2_method_2_code 12 = .ok (.iconst 1, 1) := by decide +kernel
theorem dL_isFull_13 : decode prog_2_method_2_code 13 = .ok (.goto 4, 3) := by decide +kernel
theorem dL_isFull_16 : decode prog_2_method_2_code 16 = .ok (.iconst 0, 1) := by decide +kernel
theorem dL_isFull_17 : decode prog_2_method_2_code 17 = .ok (.ireturn, 1) := by decide +kernel
theorem dL_first_0 : decode prog_2_method_3_code 0 = .ok (.aload_n 0, 1) := by decide +kernel
theorem dL_first_1 : decode prog_2_method_3_code 1 = .ok (.getfield 15, 3) := by decide +kernel
theorem dL_first_4 : decode prog_2_method_3_code 4 = .ok (.ifCond .ne 7, 3) := by decide +kernel
theorem dL_first_7 : decode prog_2_method_3_code 7 = .ok (.iconst (-1), 1) := by decide +kernel
theorem dL_first_8 : decode prog_2_method_3_code 8 = .ok (.goto 9, 3) := by decide +kernel
theorem dL_first_11 : decode prog_2_method_3_code 11 = .ok (.aload_n 0, 1) := by decide +kernel
theorem dL_first_12 : decode prog_2_method_3_code 12 = .ok (.getfield 9, 3) := by decide +kernel
theorem dL_first_15 : decode prog_2_method_3_code 15 = .ok (.iconst 0, 1) := by decide +kernel
theorem dL_first_16 : decode prog_2_method_3_code 16 = .ok (.iaload, 1) := by decide +kernel
theorem dL_first_17 : decode prog_2_method_3_code 17 = .ok (.ireturn, 1) := by decide +kernel
theorem dL_append_0 : decode prog_2_method_4_code 0 = .ok (.aload_n 0, 1) := by decide +kernel
theorem dL_append_1 : decode prog_2_method_4_code 1 = .ok (.getfield 15, 3) := by decide +kernel
theorem dL_append_4 : decode prog_2_method_4_code 4 = .ok (.aload_n 0, 1) := by decide +kernel
theorem dL_append_5 : decode prog_2_method_4_code 5 = .ok (.getfield 9, 3) := by decide +kernel
theorem dL_append_8 : decode prog_2_method_4_code 8 = .ok (.arraylength, 1) := by decide +kernel
theorem dL_append_9 : decode prog_2_method_4_code 9 = .ok (.if_icmp .ge 23, 3) := by decide +kernel
theorem dL_append_12 : decode prog_2_method_4_code 12 = .ok (.aload_n 0, 1) := by decide +kernel
theorem dL_append_13 : decode prog_2_method_4_code 13 = .ok (.getfield 9, 3) := by decide +kernel
theorem dL_append_16 : decode prog_2_method_4_code 16 = .ok (.aload_n 0, 1) := by decide +kernel
theorem dL_append_17 : decode prog_2_method_4_code 17 = .ok (.getfield 15, 3) := by decide +kernel
theorem dL_append_20 : decode prog_2_method_4_code 20 = .ok (.iload_n 1, 1) := by decide +kernel
theorem dL_append_21 : decode prog_2_method_4_code 21 = .ok (.iastore, 1) := by decide +kernel
theorem dL_append_22 : decode prog_2_method_4_code 22 = .ok (.aload_n 0, 1) := by decide +kernel
theorem dL_append_23 : decode prog_2_method_4_code 23 = .ok (.dup, 1) := by decide +kernel
theorem dL_append_24 : decode prog_2_method_4_code 24 = .ok (.getfield 15, 3) := by decide +kernel
theorem dL_append_27 : decode prog_2_method_4_code 27 = .ok (.iconst 1, 1) := by decide +kernel
theorem dL_append_28 : decode prog_2_method_4_code 28 = .ok (.iadd, 1) := by decide +kernel
theorem dL_append_29 : decode prog_2_method_4_code 29 = .ok (.putfield 15, 3) := by decide +kernel
theorem dL_append_32 : decode prog_2_method_4_code 32 = .ok (.return_, 1) := by decide +kernel
theorem dL_removeFirst_0 : decode prog_2_method_5_code 0 = .ok (.aload_n 0, 1) := by decide +kernel
theorem dL_removeFirst_1 : decode prog_2_method_5_code 1 = .ok (.getfield 15, 3) := by decide +kernel
theorem dL_removeFirst_4 : decode prog_2_method_5_code 4 = .ok (.ifCond .ne 5, 3) := by decide +kernel
theorem dL_removeFirst_7 : decode prog_2_method_5_code 7 = .ok (.iconst (-1), 1) := by decide +kernel
theorem dL_removeFirst_8 : decode prog_2_method_5_code 8 = .ok (.ireturn, 1) := by decide +kernel
theorem dL_removeFirst_9 : decode prog_2_method_5_code 9 = .ok (.aload_n 0, 1) := by decide +kernel
theorem dL_removeFirst_10 : decode prog_2_method_5_code 10 = .ok (.getfield 9, 3) := by decide +kernel
theorem dL_removeFirst_13 : decode prog_2_method_5_code 13 = .ok (.iconst 0, 1) := by decide +kernel
theorem dL_removeFirst_14 : decode prog_2_method_5_code 14 = .ok (.iaload, 1) := by decide +kernel
theorem dL_removeFirst_15 : decode prog_2_method_5_code 15 = .ok (.istore_n 1, 1) := by decide +kernel
theorem dL_removeFirst_16 : decode prog_2_method_5_code 16 = .ok (.aload_n 0, 1) := by decide +kernel
theorem dL_removeFirst_17 : decode prog_2_method_5_code 17 = .ok (.dup, 1) := by decide +kernel
theorem dL_removeFirst_18 : decode prog_2_method_5_code 18 = .ok (.getfield 15, 3) := by decide +kernel
theorem dL_removeFirst_21 : decode prog_2_method_5_code 21 = .ok (.iconst 1, 1) := by decide +kernel
theorem dL_removeFirst_22 : decode prog_2_method_5_code 22 = .ok (.isub, 1) := by decide +kernel
theorem dL_removeFirst_23 : decode prog_2_method_5_code 23 = .ok (.putfield 15, 3) := by decide +kernel
theorem dL_removeFirst_26 : decode prog_2_method_5_code 26 = .ok (.iconst 0, 1) := by decide +kernel
theorem dL_removeFirst_27 : decode prog_2_method_5_code 27 = .ok (.istore_n 2, 1) := by decide +kernel
theorem dL_removeFirst_28 : decode prog_2_method_5_code 28 = .ok (.iload_n 2, 1) := by decide +kernel
theorem dL_removeFirst_29 : decode prog_2_method_5_code 29 = .ok (.aload_n 0, 1) := by decide +kernel
theorem dL_removeFirst_30 : decode prog_2_method_5_code 30 = .ok (.getfield 15, 3) := by decide +kernel
theorem dL_removeFirst_33 : decode prog_2_method_5_code 33 = .ok (.if_icmp .ge 23, 3) := by decide +kernel
theorem dL_removeFirst_36 : decode prog_2_method_5_code 36 = .ok (.aload_n 0, 1) := by decide +kernel
theorem dL_removeFirst_37 : decode prog_2_method_5_code 37 = .ok (.getfield 9, 3) := by decide +kernel
theorem dL_removeFirst_40 : decode prog_2_method_5_code 40 = .ok (.iload_n 2, 1) := by decide +kernel
theorem dL_removeFirst_41 : decode prog_2_method_5_code 41 = .ok (.aload_n 0, 1) := by decide +kernel
theorem dL_removeFirst_42 : decode prog_2_method_5_code 42 = .ok (.getfield 9, 3) := by decide +kernel
theorem dL_removeFirst_45 : decode prog_2_method_5_code 45 = .ok (.iload_n 2, 1) := by decide +kernel
theorem dL_removeFirst_46 : decode prog_2_method_5_code 46 = .ok (.iconst 1, 1) := by decide +kernel
theorem dL_removeFirst_47 : decode prog_2_method_5_code 47 = .ok (.iadd, 1) := by decide +kernel
theorem dL_removeFirst_48 : decode prog_2_method_5_code 48 = .ok (.iaload, 1) := by decide +kernel
theorem dL_removeFirst_49 : decode prog_2_method_5_code 49 = .ok (.iastore, 1) := by decide +kernel
theorem dL_removeFirst_50 : decode prog_2_method_5_code 50 = .ok (.iinc 2 1, 3) := by decide +kernel
theorem dL_removeFirst_53 : decode prog_2_method_5_code 53 = .ok (.goto (-25), 3) := by decide +kernel
theorem dL_removeFirst_56 : decode prog_2_method_5_code 56 = .ok (.iload_n 1, 1) := by decide +kernel
theorem dL_removeFirst_57 : decode prog_2_method_5_code 57 = .ok (.ireturn, 1) := by decide +kernel
theorem dM_init_0 : decode prog_3_method_1_code 0 = .ok (.aload_n 0, 1) := by decide +kernel
theorem dM_init_1 : decode prog_3_method_1_code 1 = .ok (.invokespecial 3, 3) := by decide +kernel
theorem dM_init_4 : decode prog_3_method_1_code 4 = .ok (.aload_n 0, 1) := by decide +kernel
theorem dM_init_5 : decode prog_3_method_1_code 5 = .ok (.new 9, 3) := by decide +kernel
theorem dM_init_8 : decode prog_3_method_1_code 8 = .ok (.dup, 1) := by decide +kernel
theorem dM_init_9 : decode prog_3_method_1_code 9 = .ok (.bipush 8, 2) := by decide +kernel
theorem dM_init_11 : decode prog_3_method_1_code 11 = .ok (.invokespecial 11, 3) := by decide +kernel
theorem dM_init_14 : decode prog_3_method_1_code 14 = .ok (.putfield 14, 3) := by decide +kernel
theorem dM_init_17 : decode prog_3_method_1_code 17 = .ok (.aload_n 0, 1) := by decide +kernel
theorem dM_init_18 : decode prog_3_method_1_code 18 = .ok (.new 9, 3) := by decide +kernel
theorem dM_init_21 : decode prog_3_method_1_code 21 = .ok (.dup, 1) := by decide +kernel
theorem dM_init_22 : decode prog_3_method_1_code 22 = .ok (.iconst 4, 1) := by decide +kernel
theorem dM_init_23 : decode prog_3_method_1_code 23 = .ok (.invokespecial 11, 3) := by decide +kernel
theorem dM_init_26 : decode prog_3_method_1_code 26 = .ok (.putfield 20, 3) := by decide +kernel
theorem dM_init_29 : decode prog_3_method_1_code 29 = .ok (.aload_n 0, 1) := by decide +kernel
theorem dM_init_30 : decode prog_3_method_1_code 30 = .ok (.iconst 0, 1) := by decide +kernel
theorem dM_init_31 : decode prog_3_method_1_code 31 = .ok (.putfield 23, 3) := by decide +kernel
theorem dM_init_34 : decode prog_3_method_1_code 34 = .ok (.aload_n 0, 1) := by decide +kernel
theorem dM_init_35 : decode prog_3_method_1_code 35 = .ok (.iconst 1, 1) := by decide +kernel
theorem dM_init_36 : decode prog_3_method_1_code 36 = .ok (.putfield 27, 3) := by decide +kernel
theorem dM_init_39 : decode prog_3_method_1_code 39 = .ok (.aload_n 0, 1) := by decide +kernel
theorem dM_init_40 : decode prog_3_method_1_code 40 = .ok (.iconst 3, 1) := by decide +kernel
theorem dM_init_41 : decode prog_3_method_1_code 41 = .ok (.putfield 31, 3) := by decide +kernel
theorem dM_init_44 : decode prog_3_method_1_code 44 = .ok (.return_, 1) := by decide +kernel
theorem dM_hasInFlight_0 : decode prog_3_method_2_code 0 = .ok (.aload_n 0, 1) := by decide +kernel
theorem dM_hasInFlight_1 : decode prog_3_method_2_code 1 = .ok (.getfield 23, 3) := by decide +kernel
theorem dM_hasInFlight_4 : decode prog_3_method_2_code 4 = .ok (.iload_n 1, 1) := by decide +kernel
theorem dM_hasInFlight_5 : decode prog_3_method_2_code 5 = .ok (.ishr, 1) := by decide +kernel
theorem dM_hasInFlight_6 : decode prog_3_method_2_code 6 = .ok (.iconst 1, 1) := by decide +kernel
theorem dM_hasInFlight_7 : decode prog_3_method_2_code 7 = .ok (.iand, 1) := by decide +kernel
theorem dM_hasInFlight_8 : decode prog_3_method_2_code 8 = .ok (.iconst 1, 1) := by decide +kernel
theorem dM_hasInFlight_9 : decode prog_3_method_2_code 9 = .ok (.if_icmp .ne 7, 3) := by decide +kernel
theorem dM_hasInFlight_12 : decode prog_3_method_2_code 12 = .ok (.iconst 1, 1) := by decide +kernel
theorem dM_hasInFlight_13 : decode prog_3_method_2_code 13 = .ok (.goto 4, 3) := by decide +kernel
theorem dM_hasInFlight_16 : decode prog_3_method_2_code 16 = .ok (.iconst 0, 1) := by decide +kernel
theorem dM_hasInFlight_17 : decode prog_3_method_2_code 17 = .ok (.ireturn, 1) := by decide +kernel
theorem dM_hasRoomForAnswer_0 : decode prog_3_method_3_code 0 = .ok (.aload_n 0, 1) := by decide +kernel
theorem dM_hasRoomForAnswer_1 : decode prog_3_method_3_code 1 = .ok (.getfield 27, 3) := by decide +kernel
theorem dM_hasRoomForAnswer_4 : decode prog_3_method_3_code 4 = .ok (.ifCond .eq 17, 3) := by decide +kernel
theorem dM_hasRoomForAnswer_7 : decode prog_3_method_3_code 7 = .ok (.aload_n 0, 1) := by decide +kernel
theorem dM_hasRoomForAnswer_8 : decode prog_3_method_3_code 8 = .ok (.getfield 20, 3) := by decide +kernel
theorem dM_hasRoomForAnswer_11 : decode prog_3_method_3_code 11 = .ok (.invokevirtual 34, 3) := by decide +kernel
theorem dM_hasRoomForAnswer_14 : decode prog_3_method_3_code 14 = .ok (.ifCond .ne 7, 3) := by decide +kernel
theorem dM_hasRoomForAnswer_17 : decode prog_3_method_3_code 17 = .ok (.iconst 1, 1) := by decide +kernel
theorem dM_hasRoomForAnswer_18 : decode prog_3_method_3_code 18 = .ok (.goto 4, 3) := by decide +kernel
theorem dM_hasRoomForAnswer_21 : decode prog_3_method_3_code 21 = .ok (.iconst 0, 1) := by decide +kernel
theorem dM_hasRoomForAnswer_22 : decode prog_3_method_3_code 22 = .ok (.ireturn, 1) := by decide +kernel
theorem dG_init_0 : decode prog_4_method_1_code 0 = .ok (.aload_n 0, 1) := by decide +kernel
theorem dG_init_1 : decode prog_4_method_1_code 1 = .ok (.invokespecial 3, 3) := by decide +kernel
theorem dG_init_4 : decode prog_4_method_1_code 4 = .ok (.return_, 1) := by decide +kernel
theorem dG_become_0 : decode prog_4_method_2_code 0 = .ok (.aload_n 0, 1) := by decide +kernel
theorem dG_become_1 : decode prog_4_method_2_code 1 = .ok (.iload_n 1, 1) := by decide +kernel
theorem dG_become_2 : decode prog_4_method_2_code 2 = .ok (.putfield 9, 3) := by decide +kernel
theorem dG_become_5 : decode prog_4_method_2_code 5 = .ok (.aload_n 0, 1) := by decide +kernel
theorem dG_become_6 : decode prog_4_method_2_code 6 = .ok (.iload_n 2, 1) := by decide +kernel
theorem dG_become_7 : decode prog_4_method_2_code 7 = .ok (.putfield 15, 3) := by decide +kernel
theorem dG_become_10 : decode prog_4_method_2_code 10 = .ok (.aload_n 0, 1) := by decide +kernel
theorem dG_become_11 : decode prog_4_method_2_code 11 = .ok (.iload_n 3, 1) := by decide +kernel
theorem dG_become_12 : decode prog_4_method_2_code 12 = .ok (.putfield 18, 3) := by decide +kernel
theorem dG_become_15 : decode prog_4_method_2_code 15 = .ok (.aload_n 0, 1) := by decide +kernel
theorem dG_become_16 : decode prog_4_method_2_code 16 = .ok (.lload 4, 2) := by decide +kernel
theorem dG_become_18 : decode prog_4_method_2_code 18 = .ok (.putfield 21, 3) := by decide +kernel
theorem dG_become_21 : decode prog_4_method_2_code 21 = .ok (.aload_n 0, 1) := by decide +kernel
theorem dG_become_22 : decode prog_4_method_2_code 22 = .ok (.iload 6, 2) := by decide +kernel
theorem dG_become_24 : decode prog_4_method_2_code 24 = .ok (.putfield 25, 3) := by decide +kernel
theorem dG_become_27 : decode prog_4_method_2_code 27 = .ok (.return_, 1) := by decide +kernel
theorem dG_size_0 : decode prog_4_method_3_code 0 = .ok (.iconst 1, 1) := by decide +kernel
theorem dG_size_1 : decode prog_4_method_3_code 1 = .ok (.aload_n 0, 1) := by decide +kernel
theorem dG_size_2 : decode prog_4_method_3_code 2 = .ok (.getfield 15, 3) := by decide +kernel
theorem dG_size_5 : decode prog_4_method_3_code 5 = .ok (.ishl, 1) := by decide +kernel
theorem dG_size_6 : decode prog_4_method_3_code 6 = .ok (.ireturn, 1) := by decide +kernel
theorem dG_isDenied_0 : decode prog_4_method_4_code 0 = .ok (.aload_n 0, 1) := by decide +kernel
theorem dG_isDenied_1 : decode prog_4_method_4_code 1 = .ok (.getfield 18, 3) := by decide +kernel
theorem dG_isDenied_4 : decode prog_4_method_4_code 4 = .ok (.sipush 640, 3) := by decide +kernel
theorem dG_isDenied_7 : decode prog_4_method_4_code 7 = .ok (.if_icmp .lt 7, 3) := by decide +kernel
theorem dG_isDenied_10 : decode prog_4_method_4_code 10 = .ok (.iconst 1, 1) := by decide +kernel
theorem dG_isDenied_11 : decode prog_4_method_4_code 11 = .ok (.goto 4, 3) := by decide +kernel
theorem dG_isDenied_14 : decode prog_4_method_4_code 14 = .ok (.iconst 0, 1) := by decide +kernel
theorem dG_isDenied_15 : decode prog_4_method_4_code 15 = .ok (.ireturn, 1) := by decide +kernel
theorem dG_writesByte_0 : decode prog_4_method_5_code 0 = .ok (.aload_n 0, 1) := by decide +kernel
theorem dG_writesByte_1 : decode prog_4_method_5_code 1 = .ok (.getfield 9, 3) := by decide +kernel
theorem dG_writesByte_4 : decode prog_4_method_5_code 4 = .ok (.iconst 1, 1) := by decide +kernel
theorem dG_writesByte_5 : decode prog_4_method_5_code 5 = .ok (.if_icmp .eq 15, 3) := by decide +kernel
theorem dG_writesByte_8 : decode prog_4_method_5_code 8 = .ok (.aload_n 0, 1) := by decide +kernel
theorem dG_writesByte_9 : decode prog_4_method_5_code 9 = .ok (.getfield 25, 3) := by decide +kernel
theorem dG_writesByte_12 : decode prog_4_method_5_code 12 = .ok (.iload_n 1, 1) := by decide +kernel
theorem dG_writesByte_13 : decode prog_4_method_5_code 13 = .ok (.ishr, 1) := by decide +kernel
theorem dG_writesByte_14 : decode prog_4_method_5_code 14 = .ok (.iconst 1, 1) := by decide +kernel
theorem dG_writesByte_15 : decode prog_4_method_5_code 15 = .ok (.iand, 1) := by decide +kernel
theorem dG_writesByte_16 : decode prog_4_method_5_code 16 = .ok (.iconst 1, 1) := by decide +kernel
theorem dG_writesByte_17 : decode prog_4_method_5_code 17 = .ok (.if_icmp .ne 7, 3) := by decide +kernel
theorem dG_writesByte_20 : decode prog_4_method_5_code 20 = .ok (.iconst 1, 1) := by decide +kernel
theorem dG_writesByte_21 : decode prog_4_method_5_code 21 = .ok (.goto 4, 3) := by decide +kernel
theorem dG_writesByte_24 : decode prog_4_method_5_code 24 = .ok (.iconst 0, 1) := by decide +kernel
theorem dG_writesByte_25 : decode prog_4_method_5_code 25 = .ok (.ireturn, 1) := by decide +kernel
theorem dG_goesTo_0 : decode prog_4_method_6_code 0 = .ok (.aload_n 0, 1) := by decide +kernel
theorem dG_goesTo_1 : decode prog_4_method_6_code 1 = .ok (.getfield 18, 3) := by decide +kernel
theorem dG_goesTo_4 : decode prog_4_method_6_code 4 = .ok (.getstatic 28, 3) := by decide +kernel
theorem dG_goesTo_7 : decode prog_4_method_6_code 7 = .ok (.iload_n 1, 1) := by decide +kernel
theorem dG_goesTo_8 : decode prog_4_method_6_code 8 = .ok (.iaload, 1) := by decide +kernel
theorem dG_goesTo_9 : decode prog_4_method_6_code 9 = .ok (.if_icmp .ge 25, 3) := by decide +kernel
theorem dG_goesTo_12 : decode prog_4_method_6_code 12 = .ok (.iload_n 1, 1) := by decide +kernel
theorem dG_goesTo_13 : decode prog_4_method_6_code 13 = .ok (.ifCond .eq 17, 3) := by decide +kernel
theorem dG_goesTo_16 : decode prog_4_method_6_code 16 = .ok (.aload_n 0, 1) := by decide +kernel
theorem dG_goesTo_17 : decode prog_4_method_6_code 17 = .ok (.getfield 18, 3) := by decide +kernel
theorem dG_goesTo_20 : decode prog_4_method_6_code 20 = .ok (.getstatic 28, 3) := by decide +kernel
theorem dG_goesTo_23 : decode prog_4_method_6_code 23 = .ok (.iload_n 1, 1) := by decide +kernel
theorem dG_goesTo_24 : decode prog_4_method_6_code 24 = .ok (.iconst 1, 1) := by decide +kernel
theorem dG_goesTo_25 : decode prog_4_method_6_code 25 = .ok (.isub, 1) := by decide +kernel
theorem dG_goesTo_26 : decode prog_4_method_6_code 26 = .ok (.iaload, 1) := by decide +kernel
theorem dG_goesTo_27 : decode prog_4_method_6_code 27 = .ok (.if_icmp .lt 7, 3) := by decide +kernel
theorem dG_goesTo_30 : decode prog_4_method_6_code 30 = .ok (.iconst 1, 1) := by decide +kernel
theorem dG_goesTo_31 : decode prog_4_method_6_code 31 = .ok (.goto 4, 3) := by decide +kernel
theorem dG_goesTo_34 : decode prog_4_method_6_code 34 = .ok (.iconst 0, 1) := by decide +kernel
theorem dG_goesTo_35 : decode prog_4_method_6_code 35 = .ok (.ireturn, 1) := by decide +kernel
theorem dP_init_0 : decode prog_5_method_1_code 0 = .ok (.aload_n 0, 1) := by decide +kernel
theorem dP_init_1 : decode prog_5_method_1_code 1 = .ok (.invokespecial 3, 3) := by decide +kernel
theorem dP_init_4 : decode prog_5_method_1_code 4 = .ok (.aload_n 0, 1) := by decide +kernel
theorem dP_init_5 : decode prog_5_method_1_code 5 = .ok (.new 9, 3) := by decide +kernel
theorem dP_init_8 : decode prog_5_method_1_code 8 = .ok (.dup, 1) := by decide +kernel
theorem dP_init_9 : decode prog_5_method_1_code 9 = .ok (.iconst 2, 1) := by decide +kernel
theorem dP_init_10 : decode prog_5_method_1_code 10 = .ok (.invokespecial 11, 3) := by decide +kernel
theorem dP_init_13 : decode prog_5_method_1_code 13 = .ok (.putfield 14, 3) := by decide +kernel
theorem dP_init_16 : decode prog_5_method_1_code 16 = .ok (.aload_n 0, 1) := by decide +kernel
theorem dP_init_17 : decode prog_5_method_1_code 17 = .ok (.new 9, 3) := by decide +kernel
theorem dP_init_20 : decode prog_5_method_1_code 20 = .ok (.dup, 1) := by decide +kernel
theorem dP_init_21 : decode prog_5_method_1_code 21 = .ok (.iconst 2, 1) := by decide +kernel
theorem dP_init_22 : decode prog_5_method_1_code 22 = .ok (.invokespecial 11, 3) := by decide +kernel
theorem dP_init_25 : decode prog_5_method_1_code 25 = .ok (.putfield 20, 3) := by decide +kernel
theorem dP_init_28 : decode prog_5_method_1_code 28 = .ok (.aload_n 0, 1) := by decide +kernel
theorem dP_init_29 : decode prog_5_method_1_code 29 = .ok (.iconst 4, 1) := by decide +kernel
theorem dP_init_30 : decode prog_5_method_1_code 30 = .ok (.newarray .int, 2) := by decide +kernel
theorem dP_init_32 : decode prog_5_method_1_code 32 = .ok (.putfield 23, 3) := by decide +kernel
theorem dP_init_35 : decode prog_5_method_1_code 35 = .ok (.iconst 0, 1) := by decide +kernel
theorem dP_init_36 : decode prog_5_method_1_code 36 = .ok (.istore_n 1, 1) := by decide +kernel
theorem dP_init_37 : decode prog_5_method_1_code 37 = .ok (.iload_n 1, 1) := by decide +kernel
theorem dP_init_38 : decode prog_5_method_1_code 38 = .ok (.iconst 4, 1) := by decide +kernel
theorem dP_init_39 : decode prog_5_method_1_code 39 = .ok (.if_icmp .ge 16, 3) := by decide +kernel
theorem dP_init_42 : decode prog_5_method_1_code 42 = .ok (.aload_n 0, 1) := by decide +kernel
theorem dP_init_43 : decode prog_5_method_1_code 43 = .ok (.getfield 23, 3) := by decide +kernel
theorem dP_init_46 : decode prog_5_method_1_code 46 = .ok (.iload_n 1, 1) := by decide +kernel
theorem dP_init_47 : decode prog_5_method_1_code 47 = .ok (.iconst (-1), 1) := by decide +kernel
theorem dP_init_48 : decode prog_5_method_1_code 48 = .ok (.iastore, 1) := by decide +kernel
theorem dP_init_49 : decode prog_5_method_1_code 49 = .ok (.iinc 1 1, 3) := by decide +kernel
theorem dP_init_52 : decode prog_5_method_1_code 52 = .ok (.goto (-15), 3) := by decide +kernel
theorem dP_init_55 : decode prog_5_method_1_code 55 = .ok (.aload_n 0, 1) := by decide +kernel
theorem dP_init_56 : decode prog_5_method_1_code 56 = .ok (.iconst (-1), 1) := by decide +kernel
theorem dP_init_57 : decode prog_5_method_1_code 57 = .ok (.putfield 27, 3) := by decide +kernel
theorem dP_init_60 : decode prog_5_method_1_code 60 = .ok (.aload_n 0, 1) := by decide +kernel
theorem dP_init_61 : decode prog_5_method_1_code 61 = .ok (.iconst 0, 1) := by decide +kernel
theorem dP_init_62 : decode prog_5_method_1_code 62 = .ok (.putfield 31, 3) := by decide +kernel
theorem dP_init_65 : decode prog_5_method_1_code 65 = .ok (.aload_n 0, 1) := by decide +kernel
theorem dP_init_66 : decode prog_5_method_1_code 66 = .ok (.iconst 0, 1) := by decide +kernel
theorem dP_init_67 : decode prog_5_method_1_code 67 = .ok (.putfield 34, 3) := by decide +kernel
theorem dP_init_70 : decode prog_5_method_1_code 70 = .ok (.aload_n 0, 1) := by decide +kernel
theorem dP_init_71 : decode prog_5_method_1_code 71 = .ok (.iconst 2, 1) := by decide +kernel
theorem dP_init_72 : decode prog_5_method_1_code 72 = .ok (.putfield 37, 3) := by decide +kernel
theorem dP_init_75 : decode prog_5_method_1_code 75 = .ok (.return_, 1) := by decide +kernel
theorem dP_countDown_0 : decode prog_5_method_2_code 0 = .ok (.aload_n 0, 1) := by decide +kernel
theorem dP_countDown_1 : decode prog_5_method_2_code 1 = .ok (.getfield 31, 3) := by decide +kernel
theorem dP_countDown_4 : decode prog_5_method_2_code 4 = .ok (.ifCond .le 13, 3) := by decide +kernel
theorem dP_countDown_7 : decode prog_5_method_2_code 7 = .ok (.aload_n 0, 1) := by decide +kernel
theorem dP_countDown_8 : decode prog_5_method_2_code 8 = .ok (.dup, 1) := by decide +kernel
theorem dP_countDown_9 : decode prog_5_method_2_code 9 = .ok (.getfield 31, 3) := by decide +kernel
theorem dP_countDown_12 : decode prog_5_method_2_code 12 = .ok (.iconst 1, 1) := by decide +kernel
theorem dP_countDown_13 : decode prog_5_method_2_code 13 = .ok (.isub, 1) := by decide +kernel
theorem dP_countDown_14 : decode prog_5_method_2_code 14 = .ok (.putfield 31, 3) := by decide +kernel
theorem dP_countDown_17 : decode prog_5_method_2_code 17 = .ok (.return_, 1) := by decide +kernel
theorem dP_canFinishJob_0 : decode prog_5_method_3_code 0 = .ok (.aload_n 0, 1) := by decide +kernel
theorem dP_canFinishJob_1 : decode prog_5_method_3_code 1 = .ok (.getfield 27, 3) := by decide +kernel
theorem dP_canFinishJob_4 : decode prog_5_method_3_code 4 = .ok (.iconst (-1), 1) := by decide +kernel
theorem dP_canFinishJob_5 : decode prog_5_method_3_code 5 = .ok (.if_icmp .eq 24, 3) := by decide +kernel
theorem dP_canFinishJob_8 : decode prog_5_method_3_code 8 = .ok (.aload_n 0, 1) := by decide +kernel
theorem dP_canFinishJob_9 : decode prog_5_method_3_code 9 = .ok (.getfield 31, 3) := by decide +kernel
theorem dP_canFinishJob_12 : decode prog_5_method_3_code 12 = .ok (.ifCond .ne 17, 3) := by decide +kernel
theorem dP_canFinishJob_15 : decode prog_5_method_3_code 15 = .ok (.aload_n 0, 1) := by decide +kernel
theorem dP_canFinishJob_16 : decode prog_5_method_3_code 16 = .ok (.getfield 20, 3) := by decide +kernel
theorem dP_canFinishJob_19 : decode prog_5_method_3_code 19 = .ok (.invokevirtual 40, 3) := by decide +kernel
theorem dP_canFinishJob_22 : decode prog_5_method_3_code 22 = .ok (.ifCond .ne 7, 3) := by decide +kernel
theorem dP_canFinishJob_25 : decode prog_5_method_3_code 25 = .ok (.iconst 1, 1) := by decide +kernel
theorem dP_canFinishJob_26 : decode prog_5_method_3_code 26 = .ok (.goto 4, 3) := by decide +kernel
theorem dP_canFinishJob_29 : decode prog_5_method_3_code 29 = .ok (.iconst 0, 1) := by decide +kernel
theorem dP_canFinishJob_30 : decode prog_5_method_3_code 30 = .ok (.ireturn, 1) := by decide +kernel
theorem dP_canBeginJob_0 : decode prog_5_method_4_code 0 = .ok (.aload_n 0, 1) := by decide +kernel
theorem dP_canBeginJob_1 : decode prog_5_method_4_code 1 = .ok (.getfield 27, 3) := by decide +kernel
theorem dP_canBeginJob_4 : decode prog_5_method_4_code 4 = .ok (.iconst (-1), 1) := by decide +kernel
theorem dP_canBeginJob_5 : decode prog_5_method_4_code 5 = .ok (.if_icmp .ne 17, 3) := by decide +kernel
theorem dP_canBeginJob_8 : decode prog_5_method_4_code 8 = .ok (.aload_n 0, 1) := by decide +kernel
theorem dP_canBeginJob_9 : decode prog_5_method_4_code 9 = .ok (.getfield 14, 3) := by decide +kernel
theorem dP_canBeginJob_12 : decode prog_5_method_4_code 12 = .ok (.getfield 44, 3) := by decide +kernel
theorem dP_canBeginJob_15 : decode prog_5_method_4_code 15 = .ok (.ifCond .le 7, 3) := by decide +kernel
theorem dP_canBeginJob_18 : decode prog_5_method_4_code 18 = .ok (.iconst 1, 1) := by decide +kernel
theorem dP_canBeginJob_19 : decode prog_5_method_4_code 19 = .ok (.goto 4, 3) := by decide +kernel
theorem dP_canBeginJob_22 : decode prog_5_method_4_code 22 = .ok (.iconst 0, 1) := by decide +kernel
theorem dP_canBeginJob_23 : decode prog_5_method_4_code 23 = .ok (.ireturn, 1) := by decide +kernel
theorem dP_finishJob_0 : decode prog_5_method_5_code 0 = .ok (.aload_n 0, 1) := by decide +kernel
theorem dP_finishJob_1 : decode prog_5_method_5_code 1 = .ok (.getfield 27, 3) := by decide +kernel
theorem dP_finishJob_4 : decode prog_5_method_5_code 4 = .ok (.istore_n 1, 1) := by decide +kernel
theorem dP_finishJob_5 : decode prog_5_method_5_code 5 = .ok (.iload_n 1, 1) := by decide +kernel
theorem dP_finishJob_6 : decode prog_5_method_5_code 6 = .ok (.iconst (-1), 1) := by decide +kernel
theorem dP_finishJob_7 : decode prog_5_method_5_code 7 = .ok (.if_icmp .eq 26, 3) := by decide +kernel
theorem dP_finishJob_10 : decode prog_5_method_5_code 10 = .ok (.aload_n 0, 1) := by decide +kernel
theorem dP_finishJob_11 : decode prog_5_method_5_code 11 = .ok (.getfield 20, 3) := by decide +kernel
theorem dP_finishJob_14 : decode prog_5_method_5_code 14 = .ok (.iload_n 1, 1) := by decide +kernel
theorem dP_finishJob_15 : decode prog_5_method_5_code 15 = .ok (.invokevirtual 47, 3) := by decide +kernel
theorem dP_finishJob_18 : decode prog_5_method_5_code 18 = .ok (.aload_n 0, 1) := by decide +kernel
theorem dP_finishJob_19 : decode prog_5_method_5_code 19 = .ok (.iconst (-1), 1) := by decide +kernel
theorem dP_finishJob_20 : decode prog_5_method_5_code 20 = .ok (.putfield 27, 3) := by decide +kernel
theorem dP_finishJob_23 : decode prog_5_method_5_code 23 = .ok (.aload_n 0, 1) := by decide +kernel
theorem dP_finishJob_24 : decode prog_5_method_5_code 24 = .ok (.dup, 1) := by decide +kernel
theorem dP_finishJob_25 : decode prog_5_method_5_code 25 = .ok (.getfield 34, 3) := by decide +kernel
theorem dP_finishJob_28 : decode prog_5_method_5_code 28 = .ok (.iconst 1, 1) := by decide +kernel
theorem dP_finishJob_29 : decode prog_5_method_5_code 29 = .ok (.iadd, 1) := by decide +kernel
theorem dP_finishJob_30 : decode prog_5_method_5_code 30 = .ok (.putfield 34, 3) := by decide +kernel
theorem dP_finishJob_33 : decode prog_5_method_5_code 33 = .ok (.iload_n 1, 1) := by decide +kernel
theorem dP_finishJob_34 : decode prog_5_method_5_code 34 = .ok (.ireturn, 1) := by decide +kernel
theorem dP_hasRoomForRequest_0 : decode prog_5_method_6_code 0 = .ok (.aload_n 0, 1) := by decide +kernel
theorem dP_hasRoomForRequest_1 : decode prog_5_method_6_code 1 = .ok (.getfield 14, 3) := by decide +kernel
theorem dP_hasRoomForRequest_4 : decode prog_5_method_6_code 4 = .ok (.invokevirtual 40, 3) := by decide +kernel
theorem dP_hasRoomForRequest_7 : decode prog_5_method_6_code 7 = .ok (.ifCond .ne 15, 3) := by decide +kernel
theorem dP_hasRoomForRequest_10 : decode prog_5_method_6_code 10 = .ok (.aload_n 0, 1) := by decide +kernel
theorem dP_hasRoomForRequest_11 : decode prog_5_method_6_code 11 = .ok (.invokevirtual 50, 3) := by decide +kernel
theorem dP_hasRoomForRequest_14 : decode prog_5_method_6_code 14 = .ok (.iconst 4, 1) := by decide +kernel
theorem dP_hasRoomForRequest_15 : decode prog_5_method_6_code 15 = .ok (.if_icmp .ge 7, 3) := by decide +kernel
theorem dP_hasRoomForRequest_18 : decode prog_5_method_6_code 18 = .ok (.iconst 1, 1) := by decide +kernel
theorem dP_hasRoomForRequest_19 : decode prog_5_method_6_code 19 = .ok (.goto 4, 3) := by decide +kernel
theorem dP_hasRoomForRequest_22 : decode prog_5_method_6_code 22 = .ok (.iconst 0, 1) := by decide +kernel
theorem dP_hasRoomForRequest_23 : decode prog_5_method_6_code 23 = .ok (.ireturn, 1) := by decide +kernel
theorem dP_idsInUse_0 : decode prog_5_method_7_code 0 = .ok (.iconst 0, 1) := by decide +kernel
theorem dP_idsInUse_1 : decode prog_5_method_7_code 1 = .ok (.istore_n 1, 1) := by decide +kernel
theorem dP_idsInUse_2 : decode prog_5_method_7_code 2 = .ok (.iconst 0, 1) := by decide +kernel
theorem dP_idsInUse_3 : decode prog_5_method_7_code 3 = .ok (.istore_n 2, 1) := by decide +kernel
theorem dP_idsInUse_4 : decode prog_5_method_7_code 4 = .ok (.iload_n 2, 1) := by decide +kernel
theorem dP_idsInUse_5 : decode prog_5_method_7_code 5 = .ok (.iconst 4, 1) := by decide +kernel
theorem dP_idsInUse_6 : decode prog_5_method_7_code 6 = .ok (.if_icmp .ge 22, 3) := by decide +kernel
theorem dP_idsInUse_9 : decode prog_5_method_7_code 9 = .ok (.aload_n 0, 1) := by decide +kernel
theorem dP_idsInUse_10 : decode prog_5_method_7_code 10 = .ok (.getfield 23, 3) := by decide +kernel
theorem dP_idsInUse_13 : decode prog_5_method_7_code 13 = .ok (.iload_n 2, 1) := by decide +kernel
theorem dP_idsInUse_14 : decode prog_5_method_7_code 14 = .ok (.iaload, 1) := by decide +kernel
theorem dP_idsInUse_15 : decode prog_5_method_7_code 15 = .ok (.iconst (-1), 1) := by decide +kernel
theorem dP_idsInUse_16 : decode prog_5_method_7_code 16 = .ok (.if_icmp .eq 6, 3) := by decide +kernel
theorem dP_idsInUse_19 : decode prog_5_method_7_code 19 = .ok (.iinc 1 1, 3) := by decide +kernel
theorem dP_idsInUse_22 : decode prog_5_method_7_code 22 = .ok (.iinc 2 1, 3) := by decide +kernel
theorem dP_idsInUse_25 : decode prog_5_method_7_code 25 = .ok (.goto (-21), 3) := by decide +kernel
theorem dP_idsInUse_28 : decode prog_5_method_7_code 28 = .ok (.iload_n 1, 1) := by decide +kernel
theorem dP_idsInUse_29 : decode prog_5_method_7_code 29 = .ok (.ireturn, 1) := by decide +kernel
theorem dP_takeLeastId_0 : decode prog_5_method_8_code 0 = .ok (.iconst 0, 1) := by decide +kernel
theorem dP_takeLeastId_1 : decode prog_5_method_8_code 1 = .ok (.istore_n 2, 1) := by decide +kernel
theorem dP_takeLeastId_2 : decode prog_5_method_8_code 2 = .ok (.iload_n 2, 1) := by decide +kernel
theorem dP_takeLeastId_3 : decode prog_5_method_8_code 3 = .ok (.iconst 4, 1) := by decide +kernel
theorem dP_takeLeastId_4 : decode prog_5_method_8_code 4 = .ok (.if_icmp .ge 27, 3) := by decide +kernel
theorem dP_takeLeastId_7 : decode prog_5_method_8_code 7 = .ok (.aload_n 0, 1) := by decide +kernel
theorem dP_takeLeastId_8 : decode prog_5_method_8_code 8 = .ok (.getfield 23, 3) := by decide +kernel
theorem dP_takeLeastId_11 : decode prog_5_method_8_code 11 = .ok (.iload_n 2, 1) := by decide +kernel
theorem dP_takeLeastId_12 : decode prog_5_method_8_code 12 = .ok (.iaload, 1) := by decide +kernel
theorem dP_takeLeastId_13 : decode prog_5_method_8_code 13 = .ok (.iconst (-1), 1) := by decide +kernel
theorem dP_takeLeastId_14 : decode prog_5_method_8_code 14 = .ok (.if_icmp .ne 11, 3) := by decide +kernel
theorem dP_takeLeastId_17 : decode prog_5_method_8_code 17 = .ok (.aload_n 0, 1) := by decide +kernel
theorem dP_takeLeastId_18 : decode prog_5_method_8_code 18 = .ok (.getfield 23, 3) := by decide +kernel
theorem dP_takeLeastId_21 : decode prog_5_method_8_code 21 = .ok (.iload_n 2, 1) := by decide +kernel
theorem dP_takeLeastId_22 : decode prog_5_method_8_code 22 = .ok (.iload_n 1, 1) := by decide +kernel
theorem dP_takeLeastId_23 : decode prog_5_method_8_code 23 = .ok (.iastore, 1) := by decide +kernel
theorem dP_takeLeastId_24 : decode prog_5_method_8_code 24 = .ok (.return_, 1) := by decide +kernel
theorem dP_takeLeastId_25 : decode prog_5_method_8_code 25 = .ok (.iinc 2 1, 3) := by decide +kernel
theorem dP_takeLeastId_28 : decode prog_5_method_8_code 28 = .ok (.goto (-26), 3) := by decide +kernel
theorem dP_takeLeastId_31 : decode prog_5_method_8_code 31 = .ok (.return_, 1) := by decide +kernel
theorem dP_releaseId_0 : decode prog_5_method_9_code 0 = .ok (.iconst 0, 1) := by decide +kernel
theorem dP_releaseId_1 : decode prog_5_method_9_code 1 = .ok (.istore_n 2, 1) := by decide +kernel
theorem dP_releaseId_2 : decode prog_5_method_9_code 2 = .ok (.iload_n 2, 1) := by decide +kernel
theorem dP_releaseId_3 : decode prog_5_method_9_code 3 = .ok (.iconst 4, 1) := by decide +kernel
theorem dP_releaseId_4 : decode prog_5_method_9_code 4 = .ok (.if_icmp .ge 26, 3) := by decide +kernel
theorem dP_releaseId_7 : decode prog_5_method_9_code 7 = .ok (.aload_n 0, 1) := by decide +kernel
theorem dP_releaseId_8 : decode prog_5_method_9_code 8 = .ok (.getfield 23, 3) := by decide +kernel
theorem dP_releaseId_11 : decode prog_5_method_9_code 11 = .ok (.iload_n 2, 1) := by decide +kernel
theorem dP_releaseId_12 : decode prog_5_method_9_code 12 = .ok (.iaload, 1) := by decide +kernel
theorem dP_releaseId_13 : decode prog_5_method_9_code 13 = .ok (.iload_n 1, 1) := by decide +kernel
theorem dP_releaseId_14 : decode prog_5_method_9_code 14 = .ok (.if_icmp .ne 10, 3) := by decide +kernel
theorem dP_releaseId_17 : decode prog_5_method_9_code 17 = .ok (.aload_n 0, 1) := by decide +kernel
theorem dP_releaseId_18 : decode prog_5_method_9_code 18 = .ok (.getfield 23, 3) := by decide +kernel
theorem dP_releaseId_21 : decode prog_5_method_9_code 21 = .ok (.iload_n 2, 1) := by decide +kernel
theorem dP_releaseId_22 : decode prog_5_method_9_code 22 = .ok (.iconst (-1), 1) := by decide +kernel
theorem dP_releaseId_23 : decode prog_5_method_9_code 23 = .ok (.iastore, 1) := by decide +kernel
theorem dP_releaseId_24 : decode prog_5_method_9_code 24 = .ok (.iinc 2 1, 3) := by decide +kernel
theorem dP_releaseId_27 : decode prog_5_method_9_code 27 = .ok (.goto (-25), 3) := by decide +kernel
theorem dP_releaseId_30 : decode prog_5_method_9_code 30 = .ok (.return_, 1) := by decide +kernel
