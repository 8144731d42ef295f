theorem dZ_request_0 : decode method_3_code 0 = .ok (.aload 9, 2) := by decide +kernel
theorem dZ_request_2 : decode method_3_code 2 = .ok (.iconst 0, 1) := by decide +kernel
theorem dZ_request_3 : decode method_3_code 3 = .ok (.aload_n 0, 1) := by decide +kernel
theorem dZ_request_4 : decode method_3_code 4 = .ok (.iload_n 1, 1) := by decide +kernel
theorem dZ_request_5 : decode method_3_code 5 = .ok (.iload_n 2, 1) := by decide +kernel
theorem dZ_request_6 : decode method_3_code 6 = .ok (.iload_n 3, 1) := by decide +kernel
theorem dZ_request_7 : decode method_3_code 7 = .ok (.iload 4, 2) := by decide +kernel
theorem dZ_request_9 : decode method_3_code 9 = .ok (.iload 5, 2) := by decide +kernel
theorem dZ_request_11 : decode method_3_code 11 = .ok (.lload 6, 2) := by decide +kernel
theorem dZ_request_13 : decode method_3_code 13 = .ok (.iload 8, 2) := by decide +kernel
theorem dZ_request_15 : decode method_3_code 15 = .ok (.invokevirtual 7, 3) := by decide +kernel
theorem dZ_request_18 : decode method_3_code 18 = .ok (.i2l, 1) := by decide +kernel
theorem dZ_request_19 : decode method_3_code 19 = .ok (.lastore, 1) := by decide +kernel
theorem dZ_request_20 : decode method_3_code 20 = .ok (.goto 7, 3) := by decide +kernel
theorem dZ_request_23 : decode method_3_code 23 = .ok (.astore 10, 2) := by decide +kernel
theorem dZ_request_25 : decode method_3_code 25 = .ok (.iconst 1, 1) := by decide +kernel
theorem dZ_request_26 : decode method_3_code 26 = .ok (.ireturn, 1) := by decide +kernel
theorem dZ_request_27 : decode method_3_code 27 = .ok (.iconst 0, 1) := by decide +kernel
theorem dZ_request_28 : decode method_3_code 28 = .ok (.ireturn, 1) := by decide +kernel
theorem dZ_accept_0 : decode method_4_code 0 = .ok (.aload_n 3, 1) := by decide +kernel
theorem dZ_accept_1 : decode method_4_code 1 = .ok (.iconst 0, 1) := by decide +kernel
theorem dZ_accept_2 : decode method_4_code 2 = .ok (.aload_n 0, 1) := by decide +kernel
theorem dZ_accept_3 : decode method_4_code 3 = .ok (.iload_n 1, 1) := by decide +kernel
theorem dZ_accept_4 : decode method_4_code 4 = .ok (.iload_n 2, 1) := by decide +kernel
theorem dZ_accept_5 : decode method_4_code 5 = .ok (.invokevirtual 15, 3) := by decide +kernel
theorem dZ_accept_8 : decode method_4_code 8 = .ok (.ifCond .eq 7, 3) := by decide +kernel
theorem dZ_accept_11 : decode method_4_code 11 = .ok (.lconst 1, 1) := by decide +kernel
theorem dZ_accept_12 : decode method_4_code 12 = .ok (.goto 4, 3) := by decide +kernel
theorem dZ_accept_15 : decode method_4_code 15 = .ok (.lconst 0, 1) := by decide +kernel
theorem dZ_accept_16 : decode method_4_code 16 = .ok (.lastore, 1) := by decide +kernel
theorem dZ_accept_17 : decode method_4_code 17 = .ok (.goto 7, 3) := by decide +kernel
theorem dZ_accept_20 : decode method_4_code 20 = .ok (.astore 4, 2) := by decide +kernel
theorem dZ_accept_22 : decode method_4_code 22 = .ok (.iconst 1, 1) := by decide +kernel
theorem dZ_accept_23 : decode method_4_code 23 = .ok (.ireturn, 1) := by decide +kernel
theorem dZ_accept_24 : decode method_4_code 24 = .ok (.iconst 0, 1) := by decide +kernel
theorem dZ_accept_25 : decode method_4_code 25 = .ok (.ireturn, 1) := by decide +kernel
theorem dZ_tick_0 : decode method_5_code 0 = .ok (.aload_n 2, 1) := by decide +kernel
theorem dZ_tick_1 : decode method_5_code 1 = .ok (.iconst 0, 1) := by decide +kernel
theorem dZ_tick_2 : decode method_5_code 2 = .ok (.aload_n 0, 1) := by decide +kernel
theorem dZ_tick_3 : decode method_5_code 3 = .ok (.iload_n 1, 1) := by decide +kernel
theorem dZ_tick_4 : decode method_5_code 4 = .ok (.invokevirtual 19, 3) := by decide +kernel
theorem dZ_tick_7 : decode method_5_code 7 = .ok (.i2l, 1) := by decide +kernel
theorem dZ_tick_8 : decode method_5_code 8 = .ok (.lastore, 1) := by decide +kernel
theorem dZ_tick_9 : decode method_5_code 9 = .ok (.goto 6, 3) := by decide +kernel
theorem dZ_tick_12 : decode method_5_code 12 = .ok (.astore_n 3, 1) := by decide +kernel
theorem dZ_tick_13 : decode method_5_code 13 = .ok (.iconst 1, 1) := by decide +kernel
theorem dZ_tick_14 : decode method_5_code 14 = .ok (.ireturn, 1) := by decide +kernel
theorem dZ_tick_15 : decode method_5_code 15 = .ok (.iconst 0, 1) := by decide +kernel
theorem dZ_tick_16 : decode method_5_code 16 = .ok (.ireturn, 1) := by decide +kernel
theorem dZ_take_0 : decode method_6_code 0 = .ok (.aload_n 2, 1) := by decide +kernel
theorem dZ_take_1 : decode method_6_code 1 = .ok (.iconst 0, 1) := by decide +kernel
theorem dZ_take_2 : decode method_6_code 2 = .ok (.aload_n 0, 1) := by decide +kernel
theorem dZ_take_3 : decode method_6_code 3 = .ok (.iload_n 1, 1) := by decide +kernel
theorem dZ_take_4 : decode method_6_code 4 = .ok (.invokevirtual 23, 3) := by decide +kernel
theorem dZ_take_7 : decode method_6_code 7 = .ok (.i2l, 1) := by decide +kernel
theorem dZ_take_8 : decode method_6_code 8 = .ok (.lastore, 1) := by decide +kernel
theorem dZ_take_9 : decode method_6_code 9 = .ok (.goto 6, 3) := by decide +kernel
theorem dZ_take_12 : decode method_6_code 12 = .ok (.astore_n 3, 1) := by decide +kernel
theorem dZ_take_13 : decode method_6_code 13 = .ok (.iconst 1, 1) := by decide +kernel
theorem dZ_take_14 : decode method_6_code 14 = .ok (.ireturn, 1) := by decide +kernel
theorem dZ_take_15 : decode method_6_code 15 = .ok (.iconst 0, 1) := by decide +kernel
theorem dZ_take_16 : decode method_6_code 16 = .ok (.ireturn, 1) := by decide +kernel
theorem dZ_port_0 : decode method_7_code 0 = .ok (.aload_n 3, 1) := by decide +kernel
theorem dZ_port_1 : decode method_7_code 1 = .ok (.iconst 0, 1) := by decide +kernel
theorem dZ_port_2 : decode method_7_code 2 = .ok (.aload_n 0, 1) := by decide +kernel
theorem dZ_port_3 : decode method_7_code 3 = .ok (.iload_n 1, 1) := by decide +kernel
theorem dZ_port_4 : decode method_7_code 4 = .ok (.iload_n 2, 1) := by decide +kernel
theorem dZ_port_5 : decode method_7_code 5 = .ok (.invokevirtual 26, 3) := by decide +kernel
theorem dZ_port_8 : decode method_7_code 8 = .ok (.i2l, 1) := by decide +kernel
theorem dZ_port_9 : decode method_7_code 9 = .ok (.lastore, 1) := by decide +kernel
theorem dZ_port_10 : decode method_7_code 10 = .ok (.goto 11, 3) := by decide +kernel
theorem dZ_port_13 : decode method_7_code 13 = .ok (.astore 4, 2) := by decide +kernel
theorem dZ_port_15 : decode method_7_code 15 = .ok (.iconst 1, 1) := by decide +kernel
theorem dZ_port_16 : decode method_7_code 16 = .ok (.ireturn, 1) := by decide +kernel
theorem dZ_port_17 : decode method_7_code 17 = .ok (.astore 4, 2) := by decide +kernel
theorem dZ_port_19 : decode method_7_code 19 = .ok (.iconst 2, 1) := by decide +kernel
theorem dZ_port_20 : decode method_7_code 20 = .ok (.ireturn, 1) := by decide +kernel
theorem dZ_port_21 : decode method_7_code 21 = .ok (.iconst 0, 1) := by decide +kernel
theorem dZ_port_22 : decode method_7_code 22 = .ok (.ireturn, 1) := by decide +kernel
theorem dZ_owner_0 : decode method_8_code 0 = .ok (.aload_n 3, 1) := by decide +kernel
theorem dZ_owner_1 : decode method_8_code 1 = .ok (.iconst 0, 1) := by decide +kernel
theorem dZ_owner_2 : decode method_8_code 2 = .ok (.aload_n 0, 1) := by decide +kernel
theorem dZ_owner_3 : decode method_8_code 3 = .ok (.iload_n 1, 1) := by decide +kernel
theorem dZ_owner_4 : decode method_8_code 4 = .ok (.iload_n 2, 1) := by decide +kernel
theorem dZ_owner_5 : decode method_8_code 5 = .ok (.invokevirtual 32, 3) := by decide +kernel
theorem dZ_owner_8 : decode method_8_code 8 = .ok (.i2l, 1) := by decide +kernel
theorem dZ_owner_9 : decode method_8_code 9 = .ok (.lastore, 1) := by decide +kernel
theorem dZ_owner_10 : decode method_8_code 10 = .ok (.goto 7, 3) := by decide +kernel
theorem dZ_owner_13 : decode method_8_code 13 = .ok (.astore 4, 2) := by decide +kernel
theorem dZ_owner_15 : decode method_8_code 15 = .ok (.iconst 1, 1) := by decide +kernel
theorem dZ_owner_16 : decode method_8_code 16 = .ok (.ireturn, 1) := by decide +kernel
theorem dZ_owner_17 : decode method_8_code 17 = .ok (.iconst 0, 1) := by decide +kernel
theorem dZ_owner_18 : decode method_8_code 18 = .ok (.ireturn, 1) := by decide +kernel
theorem dZ_master_0 : decode method_9_code 0 = .ok (.aload_n 3, 1) := by decide +kernel
theorem dZ_master_1 : decode method_9_code 1 = .ok (.iconst 0, 1) := by decide +kernel
theorem dZ_master_2 : decode method_9_code 2 = .ok (.aload_n 0, 1) := by decide +kernel
theorem dZ_master_3 : decode method_9_code 3 = .ok (.iload_n 1, 1) := by decide +kernel
theorem dZ_master_4 : decode method_9_code 4 = .ok (.iload_n 2, 1) := by decide +kernel
theorem dZ_master_5 : decode method_9_code 5 = .ok (.invokevirtual 35, 3) := by decide +kernel
theorem dZ_master_8 : decode method_9_code 8 = .ok (.i2l, 1) := by decide +kernel
theorem dZ_master_9 : decode method_9_code 9 = .ok (.lastore, 1) := by decide +kernel
theorem dZ_master_10 : decode method_9_code 10 = .ok (.goto 11, 3) := by decide +kernel
theorem dZ_master_13 : decode method_9_code 13 = .ok (.astore 4, 2) := by decide +kernel
theorem dZ_master_15 : decode method_9_code 15 = .ok (.iconst 1, 1) := by decide +kernel
theorem dZ_master_16 : decode method_9_code 16 = .ok (.ireturn, 1) := by decide +kernel
theorem dZ_master_17 : decode method_9_code 17 = .ok (.astore 4, 2) := by decide +kernel
theorem dZ_master_19 : decode method_9_code 19 = .ok (.iconst 2, 1) := by decide +kernel
theorem dZ_master_20 : decode method_9_code 20 = .ok (.ireturn, 1) := by decide +kernel
theorem dZ_master_21 : decode method_9_code 21 = .ok (.iconst 0, 1) := by decide +kernel
theorem dZ_master_22 : decode method_9_code 22 = .ok (.ireturn, 1) := by decide +kernel
theorem dZ_memory_0 : decode method_10_code 0 = .ok (.aload_n 2, 1) := by decide +kernel
theorem dZ_memory_1 : decode method_10_code 1 = .ok (.iconst 0, 1) := by decide +kernel
theorem dZ_memory_2 : decode method_10_code 2 = .ok (.aload_n 0, 1) := by decide +kernel
theorem dZ_memory_3 : decode method_10_code 3 = .ok (.iload_n 1, 1) := by decide +kernel
theorem dZ_memory_4 : decode method_10_code 4 = .ok (.invokevirtual 38, 3) := by decide +kernel
theorem dZ_memory_7 : decode method_10_code 7 = .ok (.i2l, 1) := by decide +kernel
theorem dZ_memory_8 : decode method_10_code 8 = .ok (.lastore, 1) := by decide +kernel
theorem dZ_memory_9 : decode method_10_code 9 = .ok (.goto 6, 3) := by decide +kernel
theorem dZ_memory_12 : decode method_10_code 12 = .ok (.astore_n 3, 1) := by decide +kernel
theorem dZ_memory_13 : decode method_10_code 13 = .ok (.iconst 1, 1) := by decide +kernel
theorem dZ_memory_14 : decode method_10_code 14 = .ok (.ireturn, 1) := by decide +kernel
theorem dZ_memory_15 : decode method_10_code 15 = .ok (.iconst 0, 1) := by decide +kernel
theorem dZ_memory_16 : decode method_10_code 16 = .ok (.ireturn, 1) := by decide +kernel
theorem dZ_law_0 : decode code 0 = .ok (.new 8, 3) := by decide +kernel
theorem dZ_law_3 : decode code 3 = .ok (.dup, 1) := by decide +kernel
theorem dZ_law_4 : decode code 4 = .ok (.invokespecial 41, 3) := by decide +kernel
theorem dZ_law_7 : decode code 7 = .ok (.astore_n 1, 1) := by decide +kernel
theorem dZ_law_8 : decode code 8 = .ok (.new 42, 3) := by decide +kernel
theorem dZ_law_11 : decode code 11 = .ok (.dup, 1) := by decide +kernel
theorem dZ_law_12 : decode code 12 = .ok (.invokespecial 44, 3) := by decide +kernel
theorem dZ_law_15 : decode code 15 = .ok (.astore_n 2, 1) := by decide +kernel
theorem dZ_law_16 : decode code 16 = .ok (.iconst 1, 1) := by decide +kernel
theorem dZ_law_17 : decode code 17 = .ok (.newarray .long, 2) := by decide +kernel
theorem dZ_law_19 : decode code 19 = .ok (.astore_n 3, 1) := by decide +kernel
theorem dZ_law_20 : decode code 20 = .ok (.iconst 0, 1) := by decide +kernel
theorem dZ_law_21 : decode code 21 = .ok (.istore 4, 2) := by decide +kernel
theorem dZ_law_23 : decode code 23 = .ok (.iload 4, 2) := by decide +kernel
theorem dZ_law_25 : decode code 25 = .ok (.aload_n 0, 1) := by decide +kernel
theorem dZ_law_26 : decode code 26 = .ok (.arraylength, 1) := by decide +kernel
theorem dZ_law_27 : decode code 27 = .ok (.bipush 9, 2) := by decide +kernel
theorem dZ_law_29 : decode code 29 = .ok (.isub, 1) := by decide +kernel
theorem dZ_law_30 : decode code 30 = .ok (.if_icmp .gt 769, 3) := by decide +kernel
theorem dZ_law_33 : decode code 33 = .ok (.aload_n 0, 1) := by decide +kernel
theorem dZ_law_34 : decode code 34 = .ok (.iload 4, 2) := by decide +kernel
theorem dZ_law_36 : decode code 36 = .ok (.iaload, 1) := by decide +kernel
theorem dZ_law_37 : decode code 37 = .ok (.bipush 15, 2) := by decide +kernel
theorem dZ_law_39 : decode code 39 = .ok (.iand, 1) := by decide +kernel
theorem dZ_law_40 : decode code 40 = .ok (.tableswitch 753 0 10 #[60, 226, 317, 373, 429, 443, 511, 579, 647, 703, 728], 60) := by decide +kernel
theorem dZ_law_100 : decode code 100 = .ok (.aload_n 1, 1) := by decide +kernel
theorem dZ_law_101 : decode code 101 = .ok (.aload_n 0, 1) := by decide +kernel
theorem dZ_law_102 : decode code 102 = .ok (.iload 4, 2) := by decide +kernel
theorem dZ_law_104 : decode code 104 = .ok (.iconst 1, 1) := by decide +kernel
theorem dZ_law_105 : decode code 105 = .ok (.iadd, 1) := by decide +kernel
theorem dZ_law_106 : decode code 106 = .ok (.iaload, 1) := by decide +kernel
theorem dZ_law_107 : decode code 107 = .ok (.aload_n 0, 1) := by decide +kernel
theorem dZ_law_108 : decode code 108 = .ok (.iload 4, 2) := by decide +kernel
theorem dZ_law_110 : decode code 110 = .ok (.iconst 2, 1) := by decide +kernel
theorem dZ_law_111 : decode code 111 = .ok (.iadd, 1) := by decide +kernel
theorem dZ_law_112 : decode code 112 = .ok (.iaload, 1) := by decide +kernel
theorem dZ_law_113 : decode code 113 = .ok (.aload_n 0, 1) := by decide +kernel
theorem dZ_law_114 : decode code 114 = .ok (.iload 4, 2) := by decide +kernel
theorem dZ_law_116 : decode code 116 = .ok (.iconst 3, 1) := by decide +kernel
theorem dZ_law_117 : decode code 117 = .ok (.iadd, 1) := by decide +kernel
theorem dZ_law_118 : decode code 118 = .ok (.iaload, 1) := by decide +kernel
theorem dZ_law_119 : decode code 119 = .ok (.aload_n 0, 1) := by decide +kernel
theorem dZ_law_120 : decode code 120 = .ok (.iload 4, 2) := by decide +kernel
theorem dZ_law_122 : decode code 122 = .ok (.iconst 4, 1) := by decide +kernel
theorem dZ_law_123 : decode code 123 = .ok (.iadd, 1) := by decide +kernel
theorem dZ_law_124 : decode code 124 = .ok (.iaload, 1) := by decide +kernel
theorem dZ_law_125 : decode code 125 = .ok (.aload_n 0, 1) := by decide +kernel
theorem dZ_law_126 : decode code 126 = .ok (.iload 4, 2) := by decide +kernel
theorem dZ_law_128 : decode code 128 = .ok (.iconst 5, 1) := by decide +kernel
theorem dZ_law_129 : decode code 129 = .ok (.iadd, 1) := by decide +kernel
theorem dZ_law_130 : decode code 130 = .ok (.iaload, 1) := by decide +kernel
theorem dZ_law_131 : decode code 131 = .ok (.aload_n 0, 1) := by decide +kernel
theorem dZ_law_132 : decode code 132 = .ok (.iload 4, 2) := by decide +kernel
theorem dZ_law_134 : decode code 134 = .ok (.bipush 6, 2) := by decide +kernel
theorem dZ_law_136 : decode code 136 = .ok (.iadd, 1) := by decide +kernel
theorem dZ_law_137 : decode code 137 = .ok (.iaload, 1) := by decide +kernel
theorem dZ_law_138 : decode code 138 = .ok (.i2l, 1) := by decide +kernel
theorem dZ_law_139 : decode code 139 = .ok (.bipush 32, 2) := by decide +kernel
theorem dZ_law_141 : decode code 141 = .ok (.lshl, 1) := by decide +kernel
theorem dZ_law_142 : decode code 142 = .ok (.aload_n 0, 1) := by decide +kernel
theorem dZ_law_143 : decode code 143 = .ok (.iload 4, 2) := by decide +kernel
theorem dZ_law_145 : decode code 145 = .ok (.bipush 7, 2) := by decide +kernel
theorem dZ_law_147 : decode code 147 = .ok (.iadd, 1) := by decide +kernel
theorem dZ_law_148 : decode code 148 = .ok (.iaload, 1) := by decide +kernel
theorem dZ_law_149 : decode code 149 = .ok (.i2l, 1) := by decide +kernel
theorem dZ_law_150 : decode code 150 = .ok (.ldc2_w 45, 3) := by decide +kernel
theorem dZ_law_153 : decode code 153 = .ok (.land, 1) := by decide +kernel
theorem dZ_law_154 : decode code 154 = .ok (.lor, 1) := by decide +kernel
theorem dZ_law_155 : decode code 155 = .ok (.aload_n 0, 1) := by decide +kernel
theorem dZ_law_156 : decode code 156 = .ok (.iload 4, 2) := by decide +kernel
theorem dZ_law_158 : decode code 158 = .ok (.bipush 8, 2) := by decide +kernel
theorem dZ_law_160 : decode code 160 = .ok (.iadd, 1) := by decide +kernel
theorem dZ_law_161 : decode code 161 = .ok (.iaload, 1) := by decide +kernel
theorem dZ_law_162 : decode code 162 = .ok (.aload_n 3, 1) := by decide +kernel
theorem dZ_law_163 : decode code 163 = .ok (.invokestatic 47, 3) := by decide +kernel
theorem dZ_law_166 : decode code 166 = .ok (.istore 5, 2) := by decide +kernel
theorem dZ_law_168 : decode code 168 = .ok (.aload_n 2, 1) := by decide +kernel
theorem dZ_law_169 : decode code 169 = .ok (.aload_n 0, 1) := by decide +kernel
theorem dZ_law_170 : decode code 170 = .ok (.iload 4, 2) := by decide +kernel
theorem dZ_law_172 : decode code 172 = .ok (.iconst 1, 1) := by decide +kernel
theorem dZ_law_173 : decode code 173 = .ok (.iadd, 1) := by decide +kernel
theorem dZ_law_174 : decode code 174 = .ok (.iaload, 1) := by decide +kernel
theorem dZ_law_175 : decode code 175 = .ok (.aload_n 0, 1) := by decide +kernel
theorem dZ_law_176 : decode code 176 = .ok (.iload 4, 2) := by decide +kernel
theorem dZ_law_178 : decode code 178 = .ok (.iconst 2, 1) := by decide +kernel
theorem dZ_law_179 : decode code 179 = .ok (.iadd, 1) := by decide +kernel
theorem dZ_law_180 : decode code 180 = .ok (.iaload, 1) := by decide +kernel
theorem dZ_law_181 : decode code 181 = .ok (.aload_n 0, 1) := by decide +kernel
theorem dZ_law_182 : decode code 182 = .ok (.iload 4, 2) := by decide +kernel
theorem dZ_law_184 : decode code 184 = .ok (.iconst 3, 1) := by decide +kernel
theorem dZ_law_185 : decode code 185 = .ok (.iadd, 1) := by decide +kernel
theorem dZ_law_186 : decode code 186 = .ok (.iaload, 1) := by decide +kernel
theorem dZ_law_187 : decode code 187 = .ok (.aload_n 0, 1) := by decide +kernel
theorem dZ_law_188 : decode code 188 = .ok (.iload 4, 2) := by decide +kernel
theorem dZ_law_190 : decode code 190 = .ok (.iconst 4, 1) := by decide +kernel
theorem dZ_law_191 : decode code 191 = .ok (.iadd, 1) := by decide +kernel
theorem dZ_law_192 : decode code 192 = .ok (.iaload, 1) := by decide +kernel
theorem dZ_law_193 : decode code 193 = .ok (.aload_n 0, 1) := by decide +kernel
theorem dZ_law_194 : decode code 194 = .ok (.iload 4, 2) := by decide +kernel
theorem dZ_law_196 : decode code 196 = .ok (.iconst 5, 1) := by decide +kernel
theorem dZ_law_197 : decode code 197 = .ok (.iadd, 1) := by decide +kernel
theorem dZ_law_198 : decode code 198 = .ok (.iaload, 1) := by decide +kernel
theorem dZ_law_199 : decode code 199 = .ok (.aload_n 0, 1) := by decide +kernel
theorem dZ_law_200 : decode code 200 = .ok (.iload 4, 2) := by decide +kernel
theorem dZ_law_202 : decode code 202 = .ok (.bipush 6, 2) := by decide +kernel
theorem dZ_law_204 : decode code 204 = .ok (.iadd, 1) := by decide +kernel
theorem dZ_law_205 : decode code 205 = .ok (.iaload, 1) := by decide +kernel
theorem dZ_law_206 : decode code 206 = .ok (.i2l, 1) := by decide +kernel
theorem dZ_law_207 : decode code 207 = .ok (.bipush 32, 2) := by decide +kernel
theorem dZ_law_209 : decode code 209 = .ok (.lshl, 1) := by decide +kernel
theorem dZ_law_210 : decode code 210 = .ok (.aload_n 0, 1) := by decide +kernel
theorem dZ_law_211 : decode code 211 = .ok (.iload 4, 2) := by decide +kernel
theorem dZ_law_213 : decode code 213 = .ok (.bipush 7, 2) := by decide +kernel
theorem dZ_law_215 : decode code 215 = .ok (.iadd, 1) := by decide +kernel
theorem dZ_law_216 : decode code 216 = .ok (.iaload, 1) := by decide +kernel
theorem dZ_law_217 : decode code 217 = .ok (.i2l, 1) := by decide +kernel
theorem dZ_law_218 : decode code 218 = .ok (.ldc2_w 45, 3) := by decide +kernel
theorem dZ_law_221 : decode code 221 = .ok (.land, 1) := by decide +kernel
theorem dZ_law_222 : decode code 222 = .ok (.lor, 1) := by decide +kernel
theorem dZ_law_223 : decode code 223 = .ok (.aload_n 0, 1) := by decide +kernel
theorem dZ_law_224 : decode code 224 = .ok (.iload 4, 2) := by decide +kernel
theorem dZ_law_226 : decode code 226 = .ok (.bipush 8, 2) := by decide +kernel
theorem dZ_law_228 : decode code 228 = .ok (.iadd, 1) := by decide +kernel
theorem dZ_law_229 : decode code 229 = .ok (.iaload, 1) := by decide +kernel
theorem dZ_law_230 : decode code 230 = .ok (.invokevirtual 52, 3) := by decide +kernel
theorem dZ_law_233 : decode code 233 = .ok (.istore 6, 2) := by decide +kernel
theorem dZ_law_235 : decode code 235 = .ok (.aload_n 2, 1) := by decide +kernel
theorem dZ_law_236 : decode code 236 = .ok (.invokevirtual 53, 3) := by decide +kernel
theorem dZ_law_239 : decode code 239 = .ok (.iload 5, 2) := by decide +kernel
theorem dZ_law_241 : decode code 241 = .ok (.if_icmp .eq 5, 3) := by decide +kernel
theorem dZ_law_244 : decode code 244 = .ok (.iconst 0, 1) := by decide +kernel
theorem dZ_law_245 : decode code 245 = .ok (.ireturn, 1) := by decide +kernel
theorem dZ_law_246 : decode code 246 = .ok (.iload 5, 2) := by decide +kernel
theorem dZ_law_248 : decode code 248 = .ok (.ifCond .ne 15, 3) := by decide +kernel
theorem dZ_law_251 : decode code 251 = .ok (.aload_n 3, 1) := by decide +kernel
theorem dZ_law_252 : decode code 252 = .ok (.iconst 0, 1) := by decide +kernel
theorem dZ_law_253 : decode code 253 = .ok (.laload, 1) := by decide +kernel
theorem dZ_law_254 : decode code 254 = .ok (.iload 6, 2) := by decide +kernel
theorem dZ_law_256 : decode code 256 = .ok (.i2l, 1) := by decide +kernel
theorem dZ_law_257 : decode code 257 = .ok (.lcmp, 1) := by decide +kernel
theorem dZ_law_258 : decode code 258 = .ok (.ifCond .eq 5, 3) := by decide +kernel
theorem dZ_law_261 : decode code 261 = .ok (.iconst 0, 1) := by decide +kernel
theorem dZ_law_262 : decode code 262 = .ok (.ireturn, 1) := by decide +kernel
theorem dZ_law_263 : decode code 263 = .ok (.goto 530, 3) := by decide +kernel
theorem dZ_law_266 : decode code 266 = .ok (.aload_n 1, 1) := by decide +kernel
theorem dZ_law_267 : decode code 267 = .ok (.aload_n 0, 1) := by decide +kernel
theorem dZ_law_268 : decode code 268 = .ok (.iload 4, 2) := by decide +kernel
theorem dZ_law_270 : decode code 270 = .ok (.iconst 1, 1) := by decide +kernel
theorem dZ_law_271 : decode code 271 = .ok (.iadd, 1) := by decide +kernel
theorem dZ_law_272 : decode code 272 = .ok (.iaload, 1) := by decide +kernel
theorem dZ_law_273 : decode code 273 = .ok (.aload_n 0, 1) := by decide +kernel
theorem dZ_law_274 : decode code 274 = .ok (.iload 4, 2) := by decide +kernel
theorem dZ_law_276 : decode code 276 = .ok (.iconst 2, 1) := by decide +kernel
theorem dZ_law_277 : decode code 277 = .ok (.iadd, 1) := by decide +kernel
theorem dZ_law_278 : decode code 278 = .ok (.iaload, 1) := by decide +kernel
theorem dZ_law_279 : decode code 279 = .ok (.ifCond .eq 7, 3) := by decide +kernel
theorem dZ_law_282 : decode code 282 = .ok (.iconst 1, 1) := by decide +kernel
theorem dZ_law_283 : decode code 283 = .ok (.goto 4, 3) := by decide +kernel
theorem dZ_law_286 : decode code 286 = .ok (.iconst 0, 1) := by decide +kernel
theorem dZ_law_287 : decode code 287 = .ok (.aload_n 3, 1) := by decide +kernel
theorem dZ_law_288 : decode code 288 = .ok (.invokestatic 57, 3) := by decide +kernel
theorem dZ_law_291 : decode code 291 = .ok (.istore 5, 2) := by decide +kernel
theorem dZ_law_293 : decode code 293 = .ok (.aload_n 2, 1) := by decide +kernel
theorem dZ_law_294 : decode code 294 = .ok (.aload_n 0, 1) := by decide +kernel
theorem dZ_law_295 : decode code 295 = .ok (.iload 4, 2) := by decide +kernel
theorem dZ_law_297 : decode code 297 = .ok (.iconst 1, 1) := by decide +kernel
theorem dZ_law_298 : decode code 298 = .ok (.iadd, 1) := by decide +kernel
theorem dZ_law_299 : decode code 299 = .ok (.iaload, 1) := by decide +kernel
theorem dZ_law_300 : decode code 300 = .ok (.aload_n 0, 1) := by decide +kernel
theorem dZ_law_301 : decode code 301 = .ok (.iload 4, 2) := by decide +kernel
theorem dZ_law_303 : decode code 303 = .ok (.iconst 2, 1) := by decide +kernel
theorem dZ_law_304 : decode code 304 = .ok (.iadd, 1) := by decide +kernel
theorem dZ_law_305 : decode code 305 = .ok (.iaload, 1) := by decide +kernel
theorem dZ_law_306 : decode code 306 = .ok (.ifCond .eq 7, 3) := by decide +kernel
theorem dZ_law_309 : decode code 309 = .ok (.iconst 1, 1) := by decide +kernel
theorem dZ_law_310 : decode code 310 = .ok (.goto 4, 3) := by decide +kernel
theorem dZ_law_313 : decode code 313 = .ok (.iconst 0, 1) := by decide +kernel
theorem dZ_law_314 : decode code 314 = .ok (.invokevirtual 60, 3) := by decide +kernel
theorem dZ_law_317 : decode code 317 = .ok (.istore 6, 2) := by decide +kernel
theorem dZ_law_319 : decode code 319 = .ok (.aload_n 2, 1) := by decide +kernel
theorem dZ_law_320 : decode code 320 = .ok (.invokevirtual 53, 3) := by decide +kernel
theorem dZ_law_323 : decode code 323 = .ok (.iload 5, 2) := by decide +kernel
theorem dZ_law_325 : decode code 325 = .ok (.if_icmp .eq 5, 3) := by decide +kernel
theorem dZ_law_328 : decode code 328 = .ok (.iconst 0, 1) := by decide +kernel
theorem dZ_law_329 : decode code 329 = .ok (.ireturn, 1) := by decide +kernel
theorem dZ_law_330 : decode code 330 = .ok (.iload 5, 2) := by decide +kernel
theorem dZ_law_332 : decode code 332 = .ok (.ifCond .ne 22, 3) := by decide +kernel
theorem dZ_law_335 : decode code 335 = .ok (.aload_n 3, 1) := by decide +kernel
theorem dZ_law_336 : decode code 336 = .ok (.iconst 0, 1) := by decide +kernel
theorem dZ_law_337 : decode code 337 = .ok (.laload, 1) := by decide +kernel
theorem dZ_law_338 : decode code 338 = .ok (.iload 6, 2) := by decide +kernel
theorem dZ_law_340 : decode code 340 = .ok (.ifCond .eq 7, 3) := by decide +kernel
theorem dZ_law_343 : decode code 343 = .ok (.lconst 1, 1) := by decide +kernel
theorem dZ_law_344 : decode code 344 = .ok (.goto 4, 3) := by decide +kernel
theorem dZ_law_347 : decode code 347 = .ok (.lconst 0, 1) := by decide +kernel
theorem dZ_law_348 : decode code 348 = .ok (.lcmp, 1) := by decide +kernel
theorem dZ_law_349 : decode code 349 = .ok (.ifCond .eq 5, 3) := by decide +kernel
theorem dZ_law_352 : decode code 352 = .ok (.iconst 0, 1) := by decide +kernel
theorem dZ_law_353 : decode code 353 = .ok (.ireturn, 1) := by decide +kernel
theorem dZ_law_354 : decode code 354 = .ok (.goto 439, 3) := by decide +kernel
theorem dZ_law_357 : decode code 357 = .ok (.aload_n 1, 1) := by decide +kernel
theorem dZ_law_358 : decode code 358 = .ok (.aload_n 0, 1) := by decide +kernel
theorem dZ_law_359 : decode code 359 = .ok (.iload 4, 2) := by decide +kernel
theorem dZ_law_361 : decode code 361 = .ok (.iconst 1, 1) := by decide +kernel
theorem dZ_law_362 : decode code 362 = .ok (.iadd, 1) := by decide +kernel
theorem dZ_law_363 : decode code 363 = .ok (.iaload, 1) := by decide +kernel
theorem dZ_law_364 : decode code 364 = .ok (.aload_n 3, 1) := by decide +kernel
theorem dZ_law_365 : decode code 365 = .ok (.invokestatic 61, 3) := by decide +kernel
theorem dZ_law_368 : decode code 368 = .ok (.istore 5, 2) := by decide +kernel
theorem dZ_law_370 : decode code 370 = .ok (.aload_n 2, 1) := by decide +kernel
theorem dZ_law_371 : decode code 371 = .ok (.aload_n 0, 1) := by decide +kernel
theorem dZ_law_372 : decode code 372 = .ok (.iload 4, 2) := by decide +kernel
theorem dZ_law_374 : decode code 374 = .ok (.iconst 1, 1) := by decide +kernel
theorem dZ_law_375 : decode code 375 = .ok (.iadd, 1) := by decide +kernel
theorem dZ_law_376 : decode code 376 = .ok (.iaload, 1) := by decide +kernel
theorem dZ_law_377 : decode code 377 = .ok (.invokevirtual 64, 3) := by decide +kernel
theorem dZ_law_380 : decode code 380 = .ok (.istore 6, 2) := by decide +kernel
theorem dZ_law_382 : decode code 382 = .ok (.aload_n 2, 1) := by decide +kernel
theorem dZ_law_383 : decode code 383 = .ok (.invokevirtual 53, 3) := by decide +kernel
theorem dZ_law_386 : decode code 386 = .ok (.iload 5, 2) := by decide +kernel
theorem dZ_law_388 : decode code 388 = .ok (.if_icmp .eq 5, 3) := by decide +kernel
theorem dZ_law_391 : decode code 391 = .ok (.iconst 0, 1) := by decide +kernel
theorem dZ_law_392 : decode code 392 = .ok (.ireturn, 1) := by decide +kernel
theorem dZ_law_393 : decode code 393 = .ok (.iload 5, 2) := by decide +kernel
theorem dZ_law_395 : decode code 395 = .ok (.ifCond .ne 15, 3) := by decide +kernel
theorem dZ_law_398 : decode code 398 = .ok (.aload_n 3, 1) := by decide +kernel
theorem dZ_law_399 : decode code 399 = .ok (.iconst 0, 1) := by decide +kernel
theorem dZ_law_400 : decode code 400 = .ok (.laload, 1) := by decide +kernel
theorem dZ_law_401 : decode code 401 = .ok (.iload 6, 2) := by decide +kernel
theorem dZ_law_403 : decode code 403 = .ok (.i2l, 1) := by decide +kernel
theorem dZ_law_404 : decode code 404 = .ok (.lcmp, 1) := by decide +kernel
theorem dZ_law_405 : decode code 405 = .ok (.ifCond .eq 5, 3) := by decide +kernel
theorem dZ_law_408 : decode code 408 = .ok (.iconst 0, 1) := by decide +kernel
theorem dZ_law_409 : decode code 409 = .ok (.ireturn, 1) := by decide +kernel
theorem dZ_law_410 : decode code 410 = .ok (.goto 383, 3) := by decide +kernel
theorem dZ_law_413 : decode code 413 = .ok (.aload_n 1, 1) := by decide +kernel
theorem dZ_law_414 : decode code 414 = .ok (.aload_n 0, 1) := by decide +kernel
theorem dZ_law_415 : decode code 415 = .ok (.iload 4, 2) := by decide +kernel
theorem dZ_law_417 : decode code 417 = .ok (.iconst 1, 1) := by decide +kernel
theorem dZ_law_418 : decode code 418 = .ok (.iadd, 1) := by decide +kernel
theorem dZ_law_419 : decode code 419 = .ok (.iaload, 1) := by decide +kernel
theorem dZ_law_420 : decode code 420 = .ok (.aload_n 3, 1) := by decide +kernel
theorem dZ_law_421 : decode code 421 = .ok (.invokestatic 65, 3) := by decide +kernel
theorem dZ_law_424 : decode code 424 = .ok (.istore 5, 2) := by decide +kernel
theorem dZ_law_426 : decode code 426 = .ok (.aload_n 2, 1) := by decide +kernel
theorem dZ_law_427 : decode code 427 = .ok (.aload_n 0, 1) := by decide +kernel
theorem dZ_law_428 : decode code 428 = .ok (.iload 4, 2) := by decide +kernel
theorem dZ_law_430 : decode code 430 = .ok (.iconst 1, 1) := by decide +kernel
theorem dZ_law_431 : decode code 431 = .ok (.iadd, 1) := by decide +kernel
theorem dZ_law_432 : decode code 432 = .ok (.iaload, 1) := by decide +kernel
theorem dZ_law_433 : decode code 433 = .ok (.invokevirtual 67, 3) := by decide +kernel
theorem dZ_law_436 : decode code 436 = .ok (.istore 6, 2) := by decide +kernel
theorem dZ_law_438 : decode code 438 = .ok (.aload_n 2, 1) := by decide +kernel
theorem dZ_law_439 : decode code 439 = .ok (.invokevirtual 53, 3) := by decide +kernel
theorem dZ_law_442 : decode code 442 = .ok (.iload 5, 2) := by decide +kernel
theorem dZ_law_444 : decode code 444 = .ok (.if_icmp .eq 5, 3) := by decide +kernel
theorem dZ_law_447 : decode code 447 = .ok (.iconst 0, 1) := by decide +kernel
theorem dZ_law_448 : decode code 448 = .ok (.ireturn, 1) := by decide +kernel
theorem dZ_law_449 : decode code 449 = .ok (.iload 5, 2) := by decide +kernel
theorem dZ_law_451 : decode code 451 = .ok (.ifCond .ne 15, 3) := by decide +kernel
theorem dZ_law_454 : decode code 454 = .ok (.aload_n 3, 1) := by decide +kernel
theorem dZ_law_455 : decode code 455 = .ok (.iconst 0, 1) := by decide +kernel
theorem dZ_law_456 : decode code 456 = .ok (.laload, 1) := by decide +kernel
theorem dZ_law_457 : decode code 457 = .ok (.iload 6, 2) := by decide +kernel
theorem dZ_law_459 : decode code 459 = .ok (.i2l, 1) := by decide +kernel
theorem dZ_law_460 : decode code 460 = .ok (.lcmp, 1) := by decide +kernel
theorem dZ_law_461 : decode code 461 = .ok (.ifCond .eq 5, 3) := by decide +kernel
theorem dZ_law_464 : decode code 464 = .ok (.iconst 0, 1) := by decide +kernel
theorem dZ_law_465 : decode code 465 = .ok (.ireturn, 1) := by decide +kernel
theorem dZ_law_466 : decode code 466 = .ok (.goto 327, 3) := by decide +kernel
theorem dZ_law_469 : decode code 469 = .ok (.aload_n 1, 1) := by decide +kernel
theorem dZ_law_470 : decode code 470 = .ok (.invokevirtual 68, 3) := by decide +kernel
theorem dZ_law_473 : decode code 473 = .ok (.aload_n 2, 1) := by decide +kernel
theorem dZ_law_474 : decode code 474 = .ok (.invokevirtual 72, 3) := by decide +kernel
theorem dZ_law_477 : decode code 477 = .ok (.lcmp, 1) := by decide +kernel
theorem dZ_law_478 : decode code 478 = .ok (.ifCond .eq 315, 3) := by decide +kernel
theorem dZ_law_481 : decode code 481 = .ok (.iconst 0, 1) := by decide +kernel
theorem dZ_law_482 : decode code 482 = .ok (.ireturn, 1) := by decide +kernel
theorem dZ_law_483 : decode code 483 = .ok (.aload_n 1, 1) := by decide +kernel
theorem dZ_law_484 : decode code 484 = .ok (.aload_n 0, 1) := by decide +kernel
theorem dZ_law_485 : decode code 485 = .ok (.iload 4, 2) := by decide +kernel
theorem dZ_law_487 : decode code 487 = .ok (.iconst 1, 1) := by decide +kernel
theorem dZ_law_488 : decode code 488 = .ok (.iadd, 1) := by decide +kernel
theorem dZ_law_489 : decode code 489 = .ok (.iaload, 1) := by decide +kernel
theorem dZ_law_490 : decode code 490 = .ok (.aload_n 0, 1) := by decide +kernel
theorem dZ_law_491 : decode code 491 = .ok (.iload 4, 2) := by decide +kernel
theorem dZ_law_493 : decode code 493 = .ok (.iconst 2, 1) := by decide +kernel
theorem dZ_law_494 : decode code 494 = .ok (.iadd, 1) := by decide +kernel
theorem dZ_law_495 : decode code 495 = .ok (.iaload, 1) := by decide +kernel
theorem dZ_law_496 : decode code 496 = .ok (.aload_n 3, 1) := by decide +kernel
theorem dZ_law_497 : decode code 497 = .ok (.invokestatic 73, 3) := by decide +kernel
theorem dZ_law_500 : decode code 500 = .ok (.istore 5, 2) := by decide +kernel
theorem dZ_law_502 : decode code 502 = .ok (.aload_n 2, 1) := by decide +kernel
theorem dZ_law_503 : decode code 503 = .ok (.aload_n 0, 1) := by decide +kernel
theorem dZ_law_504 : decode code 504 = .ok (.iload 4, 2) := by decide +kernel
theorem dZ_law_506 : decode code 506 = .ok (.iconst 1, 1) := by decide +kernel
theorem dZ_law_507 : decode code 507 = .ok (.iadd, 1) := by decide +kernel
theorem dZ_law_508 : decode code 508 = .ok (.iaload, 1) := by decide +kernel
theorem dZ_law_509 : decode code 509 = .ok (.aload_n 0, 1) := by decide +kernel
theorem dZ_law_510 : decode code 510 = .ok (.iload 4, 2) := by decide +kernel
theorem dZ_law_512 : decode code 512 = .ok (.iconst 2, 1) := by decide +kernel
theorem dZ_law_513 : decode code 513 = .ok (.iadd, 1) := by decide +kernel
theorem dZ_law_514 : decode code 514 = .ok (.iaload, 1) := by decide +kernel
theorem dZ_law_515 : decode code 515 = .ok (.invokevirtual 76, 3) := by decide +kernel
theorem dZ_law_518 : decode code 518 = .ok (.istore 6, 2) := by decide +kernel
theorem dZ_law_520 : decode code 520 = .ok (.aload_n 2, 1) := by decide +kernel
theorem dZ_law_521 : decode code 521 = .ok (.invokevirtual 53, 3) := by decide +kernel
theorem dZ_law_524 : decode code 524 = .ok (.iload 5, 2) := by decide +kernel
theorem dZ_law_526 : decode code 526 = .ok (.if_icmp .eq 5, 3) := by decide +kernel
theorem dZ_law_529 : decode code 529 = .ok (.iconst 0, 1) := by decide +kernel
theorem dZ_law_530 : decode code 530 = .ok (.ireturn, 1) := by decide +kernel
theorem dZ_law_531 : decode code 531 = .ok (.iload 5, 2) := by decide +kernel
theorem dZ_law_533 : decode code 533 = .ok (.ifCond .ne 15, 3) := by decide +kernel
theorem dZ_law_536 : decode code 536 = .ok (.aload_n 3, 1) := by decide +kernel
theorem dZ_law_537 : decode code 537 = .ok (.iconst 0, 1) := by decide +kernel
theorem dZ_law_538 : decode code 538 = .ok (.laload, 1) := by decide +kernel
theorem dZ_law_539 : decode code 539 = .ok (.iload 6, 2) := by decide +kernel
theorem dZ_law_541 : decode code 541 = .ok (.i2l, 1) := by decide +kernel
theorem dZ_law_542 : decode code 542 = .ok (.lcmp, 1) := by decide +kernel
theorem dZ_law_543 : decode code 543 = .ok (.ifCond .eq 5, 3) := by decide +kernel
theorem dZ_law_546 : decode code 546 = .ok (.iconst 0, 1) := by decide +kernel
theorem dZ_law_547 : decode code 547 = .ok (.ireturn, 1) := by decide +kernel
theorem dZ_law_548 : decode code 548 = .ok (.goto 245, 3) := by decide +kernel
theorem dZ_law_551 : decode code 551 = .ok (.aload_n 1, 1) := by decide +kernel
theorem dZ_law_552 : decode code 552 = .ok (.aload_n 0, 1) := by decide +kernel
theorem dZ_law_553 : decode code 553 = .ok (.iload 4, 2) := by decide +kernel
theorem dZ_law_555 : decode code 555 = .ok (.iconst 1, 1) := by decide +kernel
theorem dZ_law_556 : decode code 556 = .ok (.iadd, 1) := by decide +kernel
theorem dZ_law_557 : decode code 557 = .ok (.iaload, 1) := by decide +kernel
theorem dZ_law_558 : decode code 558 = .ok (.aload_n 0, 1) := by decide +kernel
theorem dZ_law_559 : decode code 559 = .ok (.iload 4, 2) := by decide +kernel
theorem dZ_law_561 : decode code 561 = .ok (.iconst 2, 1) := by decide +kernel
theorem dZ_law_562 : decode code 562 = .ok (.iadd, 1) := by decide +kernel
theorem dZ_law_563 : decode code 563 = .ok (.iaload, 1) := by decide +kernel
theorem dZ_law_564 : decode code 564 = .ok (.aload_n 3, 1) := by decide +kernel
theorem dZ_law_565 : decode code 565 = .ok (.invokestatic 77, 3) := by decide +kernel
theorem dZ_law_568 : decode code 568 = .ok (.istore 5, 2) := by decide +kernel
theorem dZ_law_570 : decode code 570 = .ok (.aload_n 2, 1) := by decide +kernel
theorem dZ_law_571 : decode code 571 = .ok (.aload_n 0, 1) := by decide +kernel
theorem dZ_law_572 : decode code 572 = .ok (.iload 4, 2) := by decide +kernel
theorem dZ_law_574 : decode code 574 = .ok (.iconst 1, 1) := by decide +kernel
theorem dZ_law_575 : decode code 575 = .ok (.iadd, 1) := by decide +kernel
theorem dZ_law_576 : decode code 576 = .ok (.iaload, 1) := by decide +kernel
theorem dZ_law_577 : decode code 577 = .ok (.aload_n 0, 1) := by decide +kernel
theorem dZ_law_578 : decode code 578 = .ok (.iload 4, 2) := by decide +kernel
theorem dZ_law_580 : decode code 580 = .ok (.iconst 2, 1) := by decide +kernel
theorem dZ_law_581 : decode code 581 = .ok (.iadd, 1) := by decide +kernel
theorem dZ_law_582 : decode code 582 = .ok (.iaload, 1) := by decide +kernel
theorem dZ_law_583 : decode code 583 = .ok (.invokevirtual 79, 3) := by decide +kernel
theorem dZ_law_586 : decode code 586 = .ok (.istore 6, 2) := by decide +kernel
theorem dZ_law_588 : decode code 588 = .ok (.aload_n 2, 1) := by decide +kernel
theorem dZ_law_589 : decode code 589 = .ok (.invokevirtual 53, 3) := by decide +kernel
theorem dZ_law_592 : decode code 592 = .ok (.iload 5, 2) := by decide +kernel
theorem dZ_law_594 : decode code 594 = .ok (.if_icmp .eq 5, 3) := by decide +kernel
theorem dZ_law_597 : decode code 597 = .ok (.iconst 0, 1) := by decide +kernel
theorem dZ_law_598 : decode code 598 = .ok (.ireturn, 1) := by decide +kernel
theorem dZ_law_599 : decode code 599 = .ok (.iload 5, 2) := by decide +kernel
theorem dZ_law_601 : decode code 601 = .ok (.ifCond .ne 15, 3) := by decide +kernel
theorem dZ_law_604 : decode code 604 = .ok (.aload_n 3, 1) := by decide +kernel
theorem dZ_law_605 : decode code 605 = .ok (.iconst 0, 1) := by decide +kernel
theorem dZ_law_606 : decode code 606 = .ok (.laload, 1) := by decide +kernel
theorem dZ_law_607 : decode code 607 = .ok (.iload 6, 2) := by decide +kernel
theorem dZ_law_609 : decode code 609 = .ok (.i2l, 1) := by decide +kernel
theorem dZ_law_610 : decode code 610 = .ok (.lcmp, 1) := by decide +kernel
theorem dZ_law_611 : decode code 611 = .ok (.ifCond .eq 5, 3) := by decide +kernel
theorem dZ_law_614 : decode code 614 = .ok (.iconst 0, 1) := by decide +kernel
theorem dZ_law_615 : decode code 615 = .ok (.ireturn, 1) := by decide +kernel
theorem dZ_law_616 : decode code 616 = .ok (.goto 177, 3) := by decide +kernel
theorem dZ_law_619 : decode code 619 = .ok (.aload_n 1, 1) := by decide +kernel
theorem dZ_law_620 : decode code 620 = .ok (.aload_n 0, 1) := by decide +kernel
theorem dZ_law_621 : decode code 621 = .ok (.iload 4, 2) := by decide +kernel
theorem dZ_law_623 : decode code 623 = .ok (.iconst 1, 1) := by decide +kernel
theorem dZ_law_624 : decode code 624 = .ok (.iadd, 1) := by decide +kernel
theorem dZ_law_625 : decode code 625 = .ok (.iaload, 1) := by decide +kernel
theorem dZ_law_626 : decode code 626 = .ok (.aload_n 0, 1) := by decide +kernel
theorem dZ_law_627 : decode code 627 = .ok (.iload 4, 2) := by decide +kernel
theorem dZ_law_629 : decode code 629 = .ok (.iconst 2, 1) := by decide +kernel
theorem dZ_law_630 : decode code 630 = .ok (.iadd, 1) := by decide +kernel
theorem dZ_law_631 : decode code 631 = .ok (.iaload, 1) := by decide +kernel
theorem dZ_law_632 : decode code 632 = .ok (.aload_n 3, 1) := by decide +kernel
theorem dZ_law_633 : decode code 633 = .ok (.invokestatic 80, 3) := by decide +kernel
theorem dZ_law_636 : decode code 636 = .ok (.istore 5, 2) := by decide +kernel
theorem dZ_law_638 : decode code 638 = .ok (.aload_n 2, 1) := by decide +kernel
theorem dZ_law_639 : decode code 639 = .ok (.aload_n 0, 1) := by decide +kernel
theorem dZ_law_640 : decode code 640 = .ok (.iload 4, 2) := by decide +kernel
theorem dZ_law_642 : decode code 642 = .ok (.iconst 1, 1) := by decide +kernel
theorem dZ_law_643 : decode code 643 = .ok (.iadd, 1) := by decide +kernel
theorem dZ_law_644 : decode code 644 = .ok (.iaload, 1) := by decide +kernel
theorem dZ_law_645 : decode code 645 = .ok (.aload_n 0, 1) := by decide +kernel
theorem dZ_law_646 : decode code 646 = .ok (.iload 4, 2) := by decide +kernel
theorem dZ_law_648 : decode code 648 = .ok (.iconst 2, 1) := by decide +kernel
theorem dZ_law_649 : decode code 649 = .ok (.iadd, 1) := by decide +kernel
theorem dZ_law_650 : decode code 650 = .ok (.iaload, 1) := by decide +kernel
theorem dZ_law_651 : decode code 651 = .ok (.invokevirtual 82, 3) := by decide +kernel
theorem dZ_law_654 : decode code 654 = .ok (.istore 6, 2) := by decide +kernel
theorem dZ_law_656 : decode code 656 = .ok (.aload_n 2, 1) := by decide +kernel
theorem dZ_law_657 : decode code 657 = .ok (.invokevirtual 53, 3) := by decide +kernel
theorem dZ_law_660 : decode code 660 = .ok (.iload 5, 2) := by decide +kernel
theorem dZ_law_662 : decode code 662 = .ok (.if_icmp .eq 5, 3) := by decide +kernel
theorem dZ_law_665 : decode code 665 = .ok (.iconst 0, 1) := by decide +kernel
theorem dZ_law_666 : decode code 666 = .ok (.ireturn, 1) := by decide +kernel
theorem dZ_law_667 : decode code 667 = .ok (.iload 5, 2) := by decide +kernel
theorem dZ_law_669 : decode code 669 = .ok (.ifCond .ne 15, 3) := by decide +kernel
theorem dZ_law_672 : decode code 672 = .ok (.aload_n 3, 1) := by decide +kernel
theorem dZ_law_673 : decode code 673 = .ok (.iconst 0, 1) := by decide +kernel
theorem dZ_law_674 : decode code 674 = .ok (.laload, 1) := by decide +kernel
theorem dZ_law_675 : decode code 675 = .ok (.iload 6, 2) := by decide +kernel
theorem dZ_law_677 : decode code 677 = .ok (.i2l, 1) := by decide +kernel
theorem dZ_law_678 : decode code 678 = .ok (.lcmp, 1) := by decide +kernel
theorem dZ_law_679 : decode code 679 = .ok (.ifCond .eq 5, 3) := by decide +kernel
theorem dZ_law_682 : decode code 682 = .ok (.iconst 0, 1) := by decide +kernel
theorem dZ_law_683 : decode code 683 = .ok (.ireturn, 1) := by decide +kernel
theorem dZ_law_684 : decode code 684 = .ok (.goto 109, 3) := by decide +kernel
theorem dZ_law_687 : decode code 687 = .ok (.aload_n 1, 1) := by decide +kernel
theorem dZ_law_688 : decode code 688 = .ok (.aload_n 0, 1) := by decide +kernel
theorem dZ_law_689 : decode code 689 = .ok (.iload 4, 2) := by decide +kernel
theorem dZ_law_691 : decode code 691 = .ok (.iconst 1, 1) := by decide +kernel
theorem dZ_law_692 : decode code 692 = .ok (.iadd, 1) := by decide +kernel
theorem dZ_law_693 : decode code 693 = .ok (.iaload, 1) := by decide +kernel
theorem dZ_law_694 : decode code 694 = .ok (.aload_n 3, 1) := by decide +kernel
theorem dZ_law_695 : decode code 695 = .ok (.invokestatic 83, 3) := by decide +kernel
theorem dZ_law_698 : decode code 698 = .ok (.istore 5, 2) := by decide +kernel
theorem dZ_law_700 : decode code 700 = .ok (.aload_n 2, 1) := by decide +kernel
theorem dZ_law_701 : decode code 701 = .ok (.aload_n 0, 1) := by decide +kernel
theorem dZ_law_702 : decode code 702 = .ok (.iload 4, 2) := by decide +kernel
theorem dZ_law_704 : decode code 704 = .ok (.iconst 1, 1) := by decide +kernel
theorem dZ_law_705 : decode code 705 = .ok (.iadd, 1) := by decide +kernel
theorem dZ_law_706 : decode code 706 = .ok (.iaload, 1) := by decide +kernel
theorem dZ_law_707 : decode code 707 = .ok (.invokevirtual 85, 3) := by decide +kernel
theorem dZ_law_710 : decode code 710 = .ok (.istore 6, 2) := by decide +kernel
theorem dZ_law_712 : decode code 712 = .ok (.aload_n 2, 1) := by decide +kernel
theorem dZ_law_713 : decode code 713 = .ok (.invokevirtual 53, 3) := by decide +kernel
theorem dZ_law_716 : decode code 716 = .ok (.iload 5, 2) := by decide +kernel
theorem dZ_law_718 : decode code 718 = .ok (.if_icmp .eq 5, 3) := by decide +kernel
theorem dZ_law_721 : decode code 721 = .ok (.iconst 0, 1) := by decide +kernel
theorem dZ_law_722 : decode code 722 = .ok (.ireturn, 1) := by decide +kernel
theorem dZ_law_723 : decode code 723 = .ok (.iload 5, 2) := by decide +kernel
theorem dZ_law_725 : decode code 725 = .ok (.ifCond .ne 15, 3) := by decide +kernel
theorem dZ_law_728 : decode code 728 = .ok (.aload_n 3, 1) := by decide +kernel
theorem dZ_law_729 : decode code 729 = .ok (.iconst 0, 1) := by decide +kernel
theorem dZ_law_730 : decode code 730 = .ok (.laload, 1) := by decide +kernel
theorem dZ_law_731 : decode code 731 = .ok (.iload 6, 2) := by decide +kernel
theorem dZ_law_733 : decode code 733 = .ok (.i2l, 1) := by decide +kernel
theorem dZ_law_734 : decode code 734 = .ok (.lcmp, 1) := by decide +kernel
theorem dZ_law_735 : decode code 735 = .ok (.ifCond .eq 5, 3) := by decide +kernel
theorem dZ_law_738 : decode code 738 = .ok (.iconst 0, 1) := by decide +kernel
theorem dZ_law_739 : decode code 739 = .ok (.ireturn, 1) := by decide +kernel
theorem dZ_law_740 : decode code 740 = .ok (.goto 53, 3) := by decide +kernel
theorem dZ_law_743 : decode code 743 = .ok (.aload_n 1, 1) := by decide +kernel
theorem dZ_law_744 : decode code 744 = .ok (.aload_n 0, 1) := by decide +kernel
theorem dZ_law_745 : decode code 745 = .ok (.iload 4, 2) := by decide +kernel
theorem dZ_law_747 : decode code 747 = .ok (.iconst 1, 1) := by decide +kernel
theorem dZ_law_748 : decode code 748 = .ok (.iadd, 1) := by decide +kernel
theorem dZ_law_749 : decode code 749 = .ok (.iaload, 1) := by decide +kernel
theorem dZ_law_750 : decode code 750 = .ok (.invokevirtual 86, 3) := by decide +kernel
theorem dZ_law_753 : decode code 753 = .ok (.aload_n 2, 1) := by decide +kernel
theorem dZ_law_754 : decode code 754 = .ok (.aload_n 0, 1) := by decide +kernel
theorem dZ_law_755 : decode code 755 = .ok (.iload 4, 2) := by decide +kernel
theorem dZ_law_757 : decode code 757 = .ok (.iconst 1, 1) := by decide +kernel
theorem dZ_law_758 : decode code 758 = .ok (.iadd, 1) := by decide +kernel
theorem dZ_law_759 : decode code 759 = .ok (.iaload, 1) := by decide +kernel
theorem dZ_law_760 : decode code 760 = .ok (.invokevirtual 89, 3) := by decide +kernel
theorem dZ_law_763 : decode code 763 = .ok (.if_icmp .eq 30, 3) := by decide +kernel
theorem dZ_law_766 : decode code 766 = .ok (.iconst 0, 1) := by decide +kernel
theorem dZ_law_767 : decode code 767 = .ok (.ireturn, 1) := by decide +kernel
theorem dZ_law_768 : decode code 768 = .ok (.aload_n 1, 1) := by decide +kernel
theorem dZ_law_769 : decode code 769 = .ok (.aload_n 0, 1) := by decide +kernel
theorem dZ_law_770 : decode code 770 = .ok (.iload 4, 2) := by decide +kernel
theorem dZ_law_772 : decode code 772 = .ok (.iconst 1, 1) := by decide +kernel
theorem dZ_law_773 : decode code 773 = .ok (.iadd, 1) := by decide +kernel
theorem dZ_law_774 : decode code 774 = .ok (.iaload, 1) := by decide +kernel
theorem dZ_law_775 : decode code 775 = .ok (.invokevirtual 90, 3) := by decide +kernel
theorem dZ_law_778 : decode code 778 = .ok (.aload_n 2, 1) := by decide +kernel
theorem dZ_law_779 : decode code 779 = .ok (.aload_n 0, 1) := by decide +kernel
theorem dZ_law_780 : decode code 780 = .ok (.iload 4, 2) := by decide +kernel
theorem dZ_law_782 : decode code 782 = .ok (.iconst 1, 1) := by decide +kernel
theorem dZ_law_783 : decode code 783 = .ok (.iadd, 1) := by decide +kernel
theorem dZ_law_784 : decode code 784 = .ok (.iaload, 1) := by decide +kernel
theorem dZ_law_785 : decode code 785 = .ok (.invokevirtual 93, 3) := by decide +kernel
theorem dZ_law_788 : decode code 788 = .ok (.if_icmp .eq 5, 3) := by decide +kernel
theorem dZ_law_791 : decode code 791 = .ok (.iconst 0, 1) := by decide +kernel
theorem dZ_law_792 : decode code 792 = .ok (.ireturn, 1) := by decide +kernel
theorem dZ_law_793 : decode code 793 = .ok (.iinc 4 9, 3) := by decide +kernel
theorem dZ_law_796 : decode code 796 = .ok (.goto (-773), 3) := by decide +kernel
theorem dZ_law_799 : decode code 799 = .ok (.iconst 1, 1) := by decide +kernel
theorem dZ_law_800 : decode code 800 = .ok (.ireturn, 1) := by decide +kernel
