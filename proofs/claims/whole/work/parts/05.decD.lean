/-! decode rows, written by wip/gen/names.py -/
theorem d_MO_is_0 : decode b_MO_is 0 = .ok (.iload_n 1, 1) := by decide +kernel
theorem d_MO_is_1 : decode b_MO_is 1 = .ok (.ifCond .eq 29, 3) := by decide +kernel
theorem d_MO_is_4 : decode b_MO_is 4 = .ok (.iload_n 0, 1) := by decide +kernel
theorem d_MO_is_5 : decode b_MO_is 5 = .ok (.iload_n 1, 1) := by decide +kernel
theorem d_MO_is_6 : decode b_MO_is 6 = .ok (.if_icmp .eq 24, 3) := by decide +kernel
theorem d_MO_is_9 : decode b_MO_is 9 = .ok (.iload_n 1, 1) := by decide +kernel
theorem d_MO_is_10 : decode b_MO_is 10 = .ok (.iconst 1, 1) := by decide +kernel
theorem d_MO_is_11 : decode b_MO_is 11 = .ok (.if_icmp .ne 8, 3) := by decide +kernel
theorem d_MO_is_14 : decode b_MO_is 14 = .ok (.iload_n 0, 1) := by decide +kernel
theorem d_MO_is_15 : decode b_MO_is 15 = .ok (.iconst 3, 1) := by decide +kernel
theorem d_MO_is_16 : decode b_MO_is 16 = .ok (.if_icmp .eq 14, 3) := by decide +kernel
theorem d_MO_is_19 : decode b_MO_is 19 = .ok (.iload_n 1, 1) := by decide +kernel
theorem d_MO_is_20 : decode b_MO_is 20 = .ok (.iconst 2, 1) := by decide +kernel
theorem d_MO_is_21 : decode b_MO_is 21 = .ok (.if_icmp .ne 13, 3) := by decide +kernel
theorem d_MO_is_24 : decode b_MO_is 24 = .ok (.iload_n 0, 1) := by decide +kernel
theorem d_MO_is_25 : decode b_MO_is 25 = .ok (.bipush 6, 2) := by decide +kernel
theorem d_MO_is_27 : decode b_MO_is 27 = .ok (.if_icmp .ne 7, 3) := by decide +kernel
theorem d_MO_is_30 : decode b_MO_is 30 = .ok (.iconst 1, 1) := by decide +kernel
theorem d_MO_is_31 : decode b_MO_is 31 = .ok (.goto 4, 3) := by decide +kernel
theorem d_MO_is_34 : decode b_MO_is 34 = .ok (.iconst 0, 1) := by decide +kernel
theorem d_MO_is_35 : decode b_MO_is 35 = .ok (.ireturn, 1) := by decide +kernel
theorem d_MO_hold_0 : decode b_MO_hold 0 = .ok (.aload_n 0, 1) := by decide +kernel
theorem d_MO_hold_1 : decode b_MO_hold 1 = .ok (.getfield 38, 3) := by decide +kernel
theorem d_MO_hold_4 : decode b_MO_hold 4 = .ok (.iload_n 1, 1) := by decide +kernel
theorem d_MO_hold_5 : decode b_MO_hold 5 = .ok (.dup2, 1) := by decide +kernel
theorem d_MO_hold_6 : decode b_MO_hold 6 = .ok (.iaload, 1) := by decide +kernel
theorem d_MO_hold_7 : decode b_MO_hold 7 = .ok (.iconst 1, 1) := by decide +kernel
theorem d_MO_hold_8 : decode b_MO_hold 8 = .ok (.iadd, 1) := by decide +kernel
theorem d_MO_hold_9 : decode b_MO_hold 9 = .ok (.iastore, 1) := by decide +kernel
theorem d_MO_hold_10 : decode b_MO_hold 10 = .ok (.aload_n 0, 1) := by decide +kernel
theorem d_MO_hold_11 : decode b_MO_hold 11 = .ok (.getfield 38, 3) := by decide +kernel
theorem d_MO_hold_14 : decode b_MO_hold 14 = .ok (.iconst 0, 1) := by decide +kernel
theorem d_MO_hold_15 : decode b_MO_hold 15 = .ok (.iaload, 1) := by decide +kernel
theorem d_MO_hold_16 : decode b_MO_hold 16 = .ok (.aload_n 0, 1) := by decide +kernel
theorem d_MO_hold_17 : decode b_MO_hold 17 = .ok (.getfield 38, 3) := by decide +kernel
theorem d_MO_hold_20 : decode b_MO_hold 20 = .ok (.iconst 1, 1) := by decide +kernel
theorem d_MO_hold_21 : decode b_MO_hold 21 = .ok (.iaload, 1) := by decide +kernel
theorem d_MO_hold_22 : decode b_MO_hold 22 = .ok (.iadd, 1) := by decide +kernel
theorem d_MO_hold_23 : decode b_MO_hold 23 = .ok (.aload_n 0, 1) := by decide +kernel
theorem d_MO_hold_24 : decode b_MO_hold 24 = .ok (.getfield 38, 3) := by decide +kernel
theorem d_MO_hold_27 : decode b_MO_hold 27 = .ok (.iconst 2, 1) := by decide +kernel
theorem d_MO_hold_28 : decode b_MO_hold 28 = .ok (.iaload, 1) := by decide +kernel
theorem d_MO_hold_29 : decode b_MO_hold 29 = .ok (.iadd, 1) := by decide +kernel
theorem d_MO_hold_30 : decode b_MO_hold 30 = .ok (.istore_n 2, 1) := by decide +kernel
theorem d_MO_hold_31 : decode b_MO_hold 31 = .ok (.iload_n 2, 1) := by decide +kernel
theorem d_MO_hold_32 : decode b_MO_hold 32 = .ok (.aload_n 0, 1) := by decide +kernel
theorem d_MO_hold_33 : decode b_MO_hold 33 = .ok (.getfield 104, 3) := by decide +kernel
theorem d_MO_hold_36 : decode b_MO_hold 36 = .ok (.if_icmp .le 8, 3) := by decide +kernel
theorem d_MO_hold_39 : decode b_MO_hold 39 = .ok (.aload_n 0, 1) := by decide +kernel
theorem d_MO_hold_40 : decode b_MO_hold 40 = .ok (.iload_n 2, 1) := by decide +kernel
theorem d_MO_hold_41 : decode b_MO_hold 41 = .ok (.putfield 104, 3) := by decide +kernel
theorem d_MO_hold_44 : decode b_MO_hold 44 = .ok (.return_, 1) := by decide +kernel
theorem d_MO_begin_0 : decode b_MO_begin 0 = .ok (.aload_n 0, 1) := by decide +kernel
theorem d_MO_begin_1 : decode b_MO_begin 1 = .ok (.bipush 20, 2) := by decide +kernel
theorem d_MO_begin_3 : decode b_MO_begin 3 = .ok (.bipush 32, 2) := by decide +kernel
theorem d_MO_begin_5 : decode b_MO_begin 5 = .ok (.iload_n 1, 1) := by decide +kernel
theorem d_MO_begin_6 : decode b_MO_begin 6 = .ok (.imul, 1) := by decide +kernel
theorem d_MO_begin_7 : decode b_MO_begin 7 = .ok (.iconst 1, 1) := by decide +kernel
theorem d_MO_begin_8 : decode b_MO_begin 8 = .ok (.isub, 1) := by decide +kernel
theorem d_MO_begin_9 : decode b_MO_begin 9 = .ok (.iload_n 2, 1) := by decide +kernel
theorem d_MO_begin_10 : decode b_MO_begin 10 = .ok (.invokevirtual 107, 3) := by decide +kernel
theorem d_MO_begin_13 : decode b_MO_begin 13 = .ok (.iconst 0, 1) := by decide +kernel
theorem d_MO_begin_14 : decode b_MO_begin 14 = .ok (.istore_n 3, 1) := by decide +kernel
theorem d_MO_begin_15 : decode b_MO_begin 15 = .ok (.iload_n 3, 1) := by decide +kernel
theorem d_MO_begin_16 : decode b_MO_begin 16 = .ok (.iconst 3, 1) := by decide +kernel
theorem d_MO_begin_17 : decode b_MO_begin 17 = .ok (.if_icmp .ge 23, 3) := by decide +kernel
theorem d_MO_begin_20 : decode b_MO_begin 20 = .ok (.aload_n 0, 1) := by decide +kernel
theorem d_MO_begin_21 : decode b_MO_begin 21 = .ok (.getfield 35, 3) := by decide +kernel
theorem d_MO_begin_24 : decode b_MO_begin 24 = .ok (.iconst 3, 1) := by decide +kernel
theorem d_MO_begin_25 : decode b_MO_begin 25 = .ok (.aload_n 0, 1) := by decide +kernel
theorem d_MO_begin_26 : decode b_MO_begin 26 = .ok (.getfield 111, 3) := by decide +kernel
theorem d_MO_begin_29 : decode b_MO_begin 29 = .ok (.imul, 1) := by decide +kernel
theorem d_MO_begin_30 : decode b_MO_begin 30 = .ok (.iload_n 3, 1) := by decide +kernel
theorem d_MO_begin_31 : decode b_MO_begin 31 = .ok (.iadd, 1) := by decide +kernel
theorem d_MO_begin_32 : decode b_MO_begin 32 = .ok (.iconst 0, 1) := by decide +kernel
theorem d_MO_begin_33 : decode b_MO_begin 33 = .ok (.iastore, 1) := by decide +kernel
theorem d_MO_begin_34 : decode b_MO_begin 34 = .ok (.iinc 3 1, 3) := by decide +kernel
theorem d_MO_begin_37 : decode b_MO_begin 37 = .ok (.goto (-22), 3) := by decide +kernel
theorem d_MO_begin_40 : decode b_MO_begin 40 = .ok (.aload_n 0, 1) := by decide +kernel
theorem d_MO_begin_41 : decode b_MO_begin 41 = .ok (.dup, 1) := by decide +kernel
theorem d_MO_begin_42 : decode b_MO_begin 42 = .ok (.getfield 111, 3) := by decide +kernel
theorem d_MO_begin_45 : decode b_MO_begin 45 = .ok (.iconst 1, 1) := by decide +kernel
theorem d_MO_begin_46 : decode b_MO_begin 46 = .ok (.iadd, 1) := by decide +kernel
theorem d_MO_begin_47 : decode b_MO_begin 47 = .ok (.putfield 111, 3) := by decide +kernel
theorem d_MO_begin_50 : decode b_MO_begin 50 = .ok (.return_, 1) := by decide +kernel
theorem d_MO_caught_0 : decode b_MO_caught 0 = .ok (.aload_n 0, 1) := by decide +kernel
theorem d_MO_caught_1 : decode b_MO_caught 1 = .ok (.getfield 58, 3) := by decide +kernel
theorem d_MO_caught_4 : decode b_MO_caught 4 = .ok (.iconst 1, 1) := by decide +kernel
theorem d_MO_caught_5 : decode b_MO_caught 5 = .ok (.isub, 1) := by decide +kernel
theorem d_MO_caught_6 : decode b_MO_caught 6 = .ok (.istore_n 1, 1) := by decide +kernel
theorem d_MO_caught_7 : decode b_MO_caught 7 = .ok (.aload_n 0, 1) := by decide +kernel
theorem d_MO_caught_8 : decode b_MO_caught 8 = .ok (.getfield 23, 3) := by decide +kernel
theorem d_MO_caught_11 : decode b_MO_caught 11 = .ok (.iload_n 1, 1) := by decide +kernel
theorem d_MO_caught_12 : decode b_MO_caught 12 = .ok (.iaload, 1) := by decide +kernel
theorem d_MO_caught_13 : decode b_MO_caught 13 = .ok (.bipush 16, 2) := by decide +kernel
theorem d_MO_caught_15 : decode b_MO_caught 15 = .ok (.if_icmp .eq 9, 3) := by decide +kernel
theorem d_MO_caught_18 : decode b_MO_caught 18 = .ok (.iinc 1 (-1), 3) := by decide +kernel
theorem d_MO_caught_21 : decode b_MO_caught 21 = .ok (.goto (-14), 3) := by decide +kernel
theorem d_MO_caught_24 : decode b_MO_caught 24 = .ok (.aload_n 0, 1) := by decide +kernel
theorem d_MO_caught_25 : decode b_MO_caught 25 = .ok (.getfield 29, 3) := by decide +kernel
theorem d_MO_caught_28 : decode b_MO_caught 28 = .ok (.iload_n 1, 1) := by decide +kernel
theorem d_MO_caught_29 : decode b_MO_caught 29 = .ok (.iaload, 1) := by decide +kernel
theorem d_MO_caught_30 : decode b_MO_caught 30 = .ok (.ireturn, 1) := by decide +kernel
theorem d_MO_item_0 : decode b_MO_item 0 = .ok (.aload_n 0, 1) := by decide +kernel
theorem d_MO_item_1 : decode b_MO_item 1 = .ok (.getfield 86, 3) := by decide +kernel
theorem d_MO_item_4 : decode b_MO_item 4 = .ok (.istore_n 1, 1) := by decide +kernel
theorem d_MO_item_5 : decode b_MO_item 5 = .ok (.aload_n 0, 1) := by decide +kernel
theorem d_MO_item_6 : decode b_MO_item 6 = .ok (.getfield 13, 3) := by decide +kernel
theorem d_MO_item_9 : decode b_MO_item 9 = .ok (.iload_n 1, 1) := by decide +kernel
theorem d_MO_item_10 : decode b_MO_item 10 = .ok (.iaload, 1) := by decide +kernel
theorem d_MO_item_11 : decode b_MO_item 11 = .ok (.istore_n 2, 1) := by decide +kernel
theorem d_MO_item_12 : decode b_MO_item 12 = .ok (.aload_n 0, 1) := by decide +kernel
theorem d_MO_item_13 : decode b_MO_item 13 = .ok (.dup, 1) := by decide +kernel
theorem d_MO_item_14 : decode b_MO_item 14 = .ok (.getfield 114, 3) := by decide +kernel
theorem d_MO_item_17 : decode b_MO_item 17 = .ok (.iconst 1, 1) := by decide +kernel
theorem d_MO_item_18 : decode b_MO_item 18 = .ok (.iadd, 1) := by decide +kernel
theorem d_MO_item_19 : decode b_MO_item 19 = .ok (.putfield 114, 3) := by decide +kernel
theorem d_MO_item_22 : decode b_MO_item 22 = .ok (.aload_n 0, 1) := by decide +kernel
theorem d_MO_item_23 : decode b_MO_item 23 = .ok (.dup, 1) := by decide +kernel
theorem d_MO_item_24 : decode b_MO_item 24 = .ok (.getfield 86, 3) := by decide +kernel
theorem d_MO_item_27 : decode b_MO_item 27 = .ok (.iconst 1, 1) := by decide +kernel
theorem d_MO_item_28 : decode b_MO_item 28 = .ok (.iadd, 1) := by decide +kernel
theorem d_MO_item_29 : decode b_MO_item 29 = .ok (.putfield 86, 3) := by decide +kernel
theorem d_MO_item_32 : decode b_MO_item 32 = .ok (.aload_n 0, 1) := by decide +kernel
theorem d_MO_item_33 : decode b_MO_item 33 = .ok (.getfield 7, 3) := by decide +kernel
theorem d_MO_item_36 : decode b_MO_item 36 = .ok (.iload_n 1, 1) := by decide +kernel
theorem d_MO_item_37 : decode b_MO_item 37 = .ok (.iaload, 1) := by decide +kernel
theorem d_MO_item_38 : decode b_MO_item 38 = .ok (.tableswitch 333 0 14 #[74, 82, 95, 122, 150, 159, 168, 182, 191, 203, 214, 230, 257, 265, 300], 74) := by decide +kernel
theorem d_MO_item_112 : decode b_MO_item 112 = .ok (.aload_n 0, 1) := by decide +kernel
theorem d_MO_item_113 : decode b_MO_item 113 = .ok (.iload_n 2, 1) := by decide +kernel
theorem d_MO_item_114 : decode b_MO_item 114 = .ok (.invokevirtual 117, 3) := by decide +kernel
theorem d_MO_item_117 : decode b_MO_item 117 = .ok (.goto 272, 3) := by decide +kernel
theorem d_MO_item_120 : decode b_MO_item 120 = .ok (.aload_n 0, 1) := by decide +kernel
theorem d_MO_item_121 : decode b_MO_item 121 = .ok (.dup, 1) := by decide +kernel
theorem d_MO_item_122 : decode b_MO_item 122 = .ok (.getfield 121, 3) := by decide +kernel
theorem d_MO_item_125 : decode b_MO_item 125 = .ok (.iload_n 2, 1) := by decide +kernel
theorem d_MO_item_126 : decode b_MO_item 126 = .ok (.iadd, 1) := by decide +kernel
theorem d_MO_item_127 : decode b_MO_item 127 = .ok (.putfield 121, 3) := by decide +kernel
theorem d_MO_item_130 : decode b_MO_item 130 = .ok (.goto 259, 3) := by decide +kernel
theorem d_MO_item_133 : decode b_MO_item 133 = .ok (.iload_n 2, 1) := by decide +kernel
theorem d_MO_item_134 : decode b_MO_item 134 = .ok (.ifCond .ne 13, 3) := by decide +kernel
theorem d_MO_item_137 : decode b_MO_item 137 = .ok (.aload_n 0, 1) := by decide +kernel
theorem d_MO_item_138 : decode b_MO_item 138 = .ok (.bipush 6, 2) := by decide +kernel
theorem d_MO_item_140 : decode b_MO_item 140 = .ok (.iconst 0, 1) := by decide +kernel
theorem d_MO_item_141 : decode b_MO_item 141 = .ok (.invokevirtual 124, 3) := by decide +kernel
theorem d_MO_item_144 : decode b_MO_item 144 = .ok (.goto 245, 3) := by decide +kernel
theorem d_MO_item_147 : decode b_MO_item 147 = .ok (.aload_n 0, 1) := by decide +kernel
theorem d_MO_item_148 : decode b_MO_item 148 = .ok (.dup, 1) := by decide +kernel
theorem d_MO_item_149 : decode b_MO_item 149 = .ok (.getfield 121, 3) := by decide +kernel
theorem d_MO_item_152 : decode b_MO_item 152 = .ok (.iload_n 2, 1) := by decide +kernel
theorem d_MO_item_153 : decode b_MO_item 153 = .ok (.idiv, 1) := by decide +kernel
theorem d_MO_item_154 : decode b_MO_item 154 = .ok (.putfield 121, 3) := by decide +kernel
theorem d_MO_item_157 : decode b_MO_item 157 = .ok (.goto 232, 3) := by decide +kernel
theorem d_MO_item_160 : decode b_MO_item 160 = .ok (.iload_n 2, 1) := by decide +kernel
theorem d_MO_item_161 : decode b_MO_item 161 = .ok (.ifCond .ne 17, 3) := by decide +kernel
theorem d_MO_item_164 : decode b_MO_item 164 = .ok (.aload_n 0, 1) := by decide +kernel
theorem d_MO_item_165 : decode b_MO_item 165 = .ok (.aload_n 0, 1) := by decide +kernel
theorem d_MO_item_166 : decode b_MO_item 166 = .ok (.iload_n 1, 1) := by decide +kernel
theorem d_MO_item_167 : decode b_MO_item 167 = .ok (.iconst 1, 1) := by decide +kernel
theorem d_MO_item_168 : decode b_MO_item 168 = .ok (.iadd, 1) := by decide +kernel
theorem d_MO_item_169 : decode b_MO_item 169 = .ok (.invokevirtual 79, 3) := by decide +kernel
theorem d_MO_item_172 : decode b_MO_item 172 = .ok (.putfield 86, 3) := by decide +kernel
theorem d_MO_item_175 : decode b_MO_item 175 = .ok (.goto 214, 3) := by decide +kernel
theorem d_MO_item_178 : decode b_MO_item 178 = .ok (.aload_n 0, 1) := by decide +kernel
theorem d_MO_item_179 : decode b_MO_item 179 = .ok (.iconst 3, 1) := by decide +kernel
theorem d_MO_item_180 : decode b_MO_item 180 = .ok (.iload_n 1, 1) := by decide +kernel
theorem d_MO_item_181 : decode b_MO_item 181 = .ok (.iload_n 2, 1) := by decide +kernel
theorem d_MO_item_182 : decode b_MO_item 182 = .ok (.invokevirtual 107, 3) := by decide +kernel
theorem d_MO_item_185 : decode b_MO_item 185 = .ok (.goto 204, 3) := by decide +kernel
theorem d_MO_item_188 : decode b_MO_item 188 = .ok (.aload_n 0, 1) := by decide +kernel
theorem d_MO_item_189 : decode b_MO_item 189 = .ok (.iconst 1, 1) := by decide +kernel
theorem d_MO_item_190 : decode b_MO_item 190 = .ok (.iconst 0, 1) := by decide +kernel
theorem d_MO_item_191 : decode b_MO_item 191 = .ok (.invokevirtual 101, 3) := by decide +kernel
theorem d_MO_item_194 : decode b_MO_item 194 = .ok (.goto 195, 3) := by decide +kernel
theorem d_MO_item_197 : decode b_MO_item 197 = .ok (.aload_n 0, 1) := by decide +kernel
theorem d_MO_item_198 : decode b_MO_item 198 = .ok (.iconst 2, 1) := by decide +kernel
theorem d_MO_item_199 : decode b_MO_item 199 = .ok (.iconst 0, 1) := by decide +kernel
theorem d_MO_item_200 : decode b_MO_item 200 = .ok (.invokevirtual 101, 3) := by decide +kernel
theorem d_MO_item_203 : decode b_MO_item 203 = .ok (.goto 186, 3) := by decide +kernel
theorem d_MO_item_206 : decode b_MO_item 206 = .ok (.aload_n 0, 1) := by decide +kernel
theorem d_MO_item_207 : decode b_MO_item 207 = .ok (.iconst 3, 1) := by decide +kernel
theorem d_MO_item_208 : decode b_MO_item 208 = .ok (.aload_n 0, 1) := by decide +kernel
theorem d_MO_item_209 : decode b_MO_item 209 = .ok (.getfield 121, 3) := by decide +kernel
theorem d_MO_item_212 : decode b_MO_item 212 = .ok (.iload_n 2, 1) := by decide +kernel
theorem d_MO_item_213 : decode b_MO_item 213 = .ok (.iadd, 1) := by decide +kernel
theorem d_MO_item_214 : decode b_MO_item 214 = .ok (.invokevirtual 101, 3) := by decide +kernel
theorem d_MO_item_217 : decode b_MO_item 217 = .ok (.goto 172, 3) := by decide +kernel
theorem d_MO_item_220 : decode b_MO_item 220 = .ok (.aload_n 0, 1) := by decide +kernel
theorem d_MO_item_221 : decode b_MO_item 221 = .ok (.iload_n 2, 1) := by decide +kernel
theorem d_MO_item_222 : decode b_MO_item 222 = .ok (.iconst 0, 1) := by decide +kernel
theorem d_MO_item_223 : decode b_MO_item 223 = .ok (.invokevirtual 124, 3) := by decide +kernel
theorem d_MO_item_226 : decode b_MO_item 226 = .ok (.goto 163, 3) := by decide +kernel
theorem d_MO_item_229 : decode b_MO_item 229 = .ok (.aload_n 0, 1) := by decide +kernel
theorem d_MO_item_230 : decode b_MO_item 230 = .ok (.iload_n 2, 1) := by decide +kernel
theorem d_MO_item_231 : decode b_MO_item 231 = .ok (.aload_n 0, 1) := by decide +kernel
theorem d_MO_item_232 : decode b_MO_item 232 = .ok (.invokevirtual 127, 3) := by decide +kernel
theorem d_MO_item_235 : decode b_MO_item 235 = .ok (.invokevirtual 124, 3) := by decide +kernel
theorem d_MO_item_238 : decode b_MO_item 238 = .ok (.goto 151, 3) := by decide +kernel
theorem d_MO_item_241 : decode b_MO_item 241 = .ok (.aload_n 0, 1) := by decide +kernel
theorem d_MO_item_242 : decode b_MO_item 242 = .ok (.bipush 9, 2) := by decide +kernel
theorem d_MO_item_244 : decode b_MO_item 244 = .ok (.iload_n 1, 1) := by decide +kernel
theorem d_MO_item_245 : decode b_MO_item 245 = .ok (.iconst 0, 1) := by decide +kernel
theorem d_MO_item_246 : decode b_MO_item 246 = .ok (.invokevirtual 107, 3) := by decide +kernel
theorem d_MO_item_249 : decode b_MO_item 249 = .ok (.goto 140, 3) := by decide +kernel
theorem d_MO_item_252 : decode b_MO_item 252 = .ok (.aload_n 0, 1) := by decide +kernel
theorem d_MO_item_253 : decode b_MO_item 253 = .ok (.iload_n 2, 1) := by decide +kernel
theorem d_MO_item_254 : decode b_MO_item 254 = .ok (.invokevirtual 131, 3) := by decide +kernel
theorem d_MO_item_257 : decode b_MO_item 257 = .ok (.aload_n 0, 1) := by decide +kernel
theorem d_MO_item_258 : decode b_MO_item 258 = .ok (.bipush 10, 2) := by decide +kernel
theorem d_MO_item_260 : decode b_MO_item 260 = .ok (.iload_n 1, 1) := by decide +kernel
theorem d_MO_item_261 : decode b_MO_item 261 = .ok (.iload_n 2, 1) := by decide +kernel
theorem d_MO_item_262 : decode b_MO_item 262 = .ok (.invokevirtual 107, 3) := by decide +kernel
theorem d_MO_item_265 : decode b_MO_item 265 = .ok (.goto 124, 3) := by decide +kernel
theorem d_MO_item_268 : decode b_MO_item 268 = .ok (.aload_n 0, 1) := by decide +kernel
theorem d_MO_item_269 : decode b_MO_item 269 = .ok (.iload_n 2, 1) := by decide +kernel
theorem d_MO_item_270 : decode b_MO_item 270 = .ok (.invokevirtual 131, 3) := by decide +kernel
theorem d_MO_item_273 : decode b_MO_item 273 = .ok (.aload_n 0, 1) := by decide +kernel
theorem d_MO_item_274 : decode b_MO_item 274 = .ok (.getfield 35, 3) := by decide +kernel
theorem d_MO_item_277 : decode b_MO_item 277 = .ok (.iconst 3, 1) := by decide +kernel
theorem d_MO_item_278 : decode b_MO_item 278 = .ok (.aload_n 0, 1) := by decide +kernel
theorem d_MO_item_279 : decode b_MO_item 279 = .ok (.getfield 111, 3) := by decide +kernel
theorem d_MO_item_282 : decode b_MO_item 282 = .ok (.imul, 1) := by decide +kernel
theorem d_MO_item_283 : decode b_MO_item 283 = .ok (.iconst 3, 1) := by decide +kernel
theorem d_MO_item_284 : decode b_MO_item 284 = .ok (.isub, 1) := by decide +kernel
theorem d_MO_item_285 : decode b_MO_item 285 = .ok (.iload_n 2, 1) := by decide +kernel
theorem d_MO_item_286 : decode b_MO_item 286 = .ok (.iadd, 1) := by decide +kernel
theorem d_MO_item_287 : decode b_MO_item 287 = .ok (.dup2, 1) := by decide +kernel
theorem d_MO_item_288 : decode b_MO_item 288 = .ok (.iaload, 1) := by decide +kernel
theorem d_MO_item_289 : decode b_MO_item 289 = .ok (.iconst 1, 1) := by decide +kernel
theorem d_MO_item_290 : decode b_MO_item 290 = .ok (.iadd, 1) := by decide +kernel
theorem d_MO_item_291 : decode b_MO_item 291 = .ok (.iastore, 1) := by decide +kernel
theorem d_MO_item_292 : decode b_MO_item 292 = .ok (.goto 97, 3) := by decide +kernel
theorem d_MO_item_295 : decode b_MO_item 295 = .ok (.aload_n 0, 1) := by decide +kernel
theorem d_MO_item_296 : decode b_MO_item 296 = .ok (.iload_n 2, 1) := by decide +kernel
theorem d_MO_item_297 : decode b_MO_item 297 = .ok (.invokevirtual 134, 3) := by decide +kernel
theorem d_MO_item_300 : decode b_MO_item 300 = .ok (.goto 89, 3) := by decide +kernel
theorem d_MO_item_303 : decode b_MO_item 303 = .ok (.aload_n 0, 1) := by decide +kernel
theorem d_MO_item_304 : decode b_MO_item 304 = .ok (.getfield 111, 3) := by decide +kernel
theorem d_MO_item_307 : decode b_MO_item 307 = .ok (.bipush 6, 2) := by decide +kernel
theorem d_MO_item_309 : decode b_MO_item 309 = .ok (.if_icmp .ne 12, 3) := by decide +kernel
theorem d_MO_item_312 : decode b_MO_item 312 = .ok (.aload_n 0, 1) := by decide +kernel
theorem d_MO_item_313 : decode b_MO_item 313 = .ok (.iconst 5, 1) := by decide +kernel
theorem d_MO_item_314 : decode b_MO_item 314 = .ok (.iconst 0, 1) := by decide +kernel
theorem d_MO_item_315 : decode b_MO_item 315 = .ok (.invokevirtual 124, 3) := by decide +kernel
theorem d_MO_item_318 : decode b_MO_item 318 = .ok (.goto 71, 3) := by decide +kernel
theorem d_MO_item_321 : decode b_MO_item 321 = .ok (.aload_n 0, 1) := by decide +kernel
theorem d_MO_item_322 : decode b_MO_item 322 = .ok (.getfield 16, 3) := by decide +kernel
theorem d_MO_item_325 : decode b_MO_item 325 = .ok (.iload_n 2, 1) := by decide +kernel
theorem d_MO_item_326 : decode b_MO_item 326 = .ok (.iaload, 1) := by decide +kernel
theorem d_MO_item_327 : decode b_MO_item 327 = .ok (.ifCond .le 62, 3) := by decide +kernel
theorem d_MO_item_330 : decode b_MO_item 330 = .ok (.aload_n 0, 1) := by decide +kernel
theorem d_MO_item_331 : decode b_MO_item 331 = .ok (.iload_n 2, 1) := by decide +kernel
theorem d_MO_item_332 : decode b_MO_item 332 = .ok (.invokevirtual 137, 3) := by decide +kernel
theorem d_MO_item_335 : decode b_MO_item 335 = .ok (.goto 54, 3) := by decide +kernel
theorem d_MO_item_338 : decode b_MO_item 338 = .ok (.aload_n 0, 1) := by decide +kernel
theorem d_MO_item_339 : decode b_MO_item 339 = .ok (.getfield 121, 3) := by decide +kernel
theorem d_MO_item_342 : decode b_MO_item 342 = .ok (.iload_n 2, 1) := by decide +kernel
theorem d_MO_item_343 : decode b_MO_item 343 = .ok (.if_icmp .le 14, 3) := by decide +kernel
theorem d_MO_item_346 : decode b_MO_item 346 = .ok (.aload_n 0, 1) := by decide +kernel
theorem d_MO_item_347 : decode b_MO_item 347 = .ok (.bipush 14, 2) := by decide +kernel
theorem d_MO_item_349 : decode b_MO_item 349 = .ok (.iload_n 1, 1) := by decide +kernel
theorem d_MO_item_350 : decode b_MO_item 350 = .ok (.iconst 0, 1) := by decide +kernel
theorem d_MO_item_351 : decode b_MO_item 351 = .ok (.invokevirtual 107, 3) := by decide +kernel
theorem d_MO_item_354 : decode b_MO_item 354 = .ok (.goto 35, 3) := by decide +kernel
theorem d_MO_item_357 : decode b_MO_item 357 = .ok (.aload_n 0, 1) := by decide +kernel
theorem d_MO_item_358 : decode b_MO_item 358 = .ok (.aload_n 0, 1) := by decide +kernel
theorem d_MO_item_359 : decode b_MO_item 359 = .ok (.iload_n 1, 1) := by decide +kernel
theorem d_MO_item_360 : decode b_MO_item 360 = .ok (.iconst 1, 1) := by decide +kernel
theorem d_MO_item_361 : decode b_MO_item 361 = .ok (.iadd, 1) := by decide +kernel
theorem d_MO_item_362 : decode b_MO_item 362 = .ok (.invokevirtual 79, 3) := by decide +kernel
theorem d_MO_item_365 : decode b_MO_item 365 = .ok (.putfield 86, 3) := by decide +kernel
theorem d_MO_item_368 : decode b_MO_item 368 = .ok (.goto 21, 3) := by decide +kernel
theorem d_MO_item_371 : decode b_MO_item 371 = .ok (.aload_n 0, 1) := by decide +kernel
theorem d_MO_item_372 : decode b_MO_item 372 = .ok (.aload_n 0, 1) := by decide +kernel
theorem d_MO_item_373 : decode b_MO_item 373 = .ok (.getfield 38, 3) := by decide +kernel
theorem d_MO_item_376 : decode b_MO_item 376 = .ok (.iload_n 2, 1) := by decide +kernel
theorem d_MO_item_377 : decode b_MO_item 377 = .ok (.iaload, 1) := by decide +kernel
theorem d_MO_item_378 : decode b_MO_item 378 = .ok (.ifCond .le 7, 3) := by decide +kernel
theorem d_MO_item_381 : decode b_MO_item 381 = .ok (.iconst 1, 1) := by decide +kernel
theorem d_MO_item_382 : decode b_MO_item 382 = .ok (.goto 4, 3) := by decide +kernel
theorem d_MO_item_385 : decode b_MO_item 385 = .ok (.iconst 0, 1) := by decide +kernel
theorem d_MO_item_386 : decode b_MO_item 386 = .ok (.putfield 121, 3) := by decide +kernel
theorem d_MO_item_389 : decode b_MO_item 389 = .ok (.return_, 1) := by decide +kernel
theorem d_MO_call_0 : decode b_MO_call 0 = .ok (.aload_n 0, 1) := by decide +kernel
theorem d_MO_call_1 : decode b_MO_call 1 = .ok (.getfield 86, 3) := by decide +kernel
theorem d_MO_call_4 : decode b_MO_call 4 = .ok (.istore_n 2, 1) := by decide +kernel
theorem d_MO_call_5 : decode b_MO_call 5 = .ok (.aload_n 0, 1) := by decide +kernel
theorem d_MO_call_6 : decode b_MO_call 6 = .ok (.iload_n 1, 1) := by decide +kernel
theorem d_MO_call_7 : decode b_MO_call 7 = .ok (.aload_n 0, 1) := by decide +kernel
theorem d_MO_call_8 : decode b_MO_call 8 = .ok (.getfield 121, 3) := by decide +kernel
theorem d_MO_call_11 : decode b_MO_call 11 = .ok (.invokevirtual 140, 3) := by decide +kernel
theorem d_MO_call_14 : decode b_MO_call 14 = .ok (.aload_n 0, 1) := by decide +kernel
theorem d_MO_call_15 : decode b_MO_call 15 = .ok (.getfield 32, 3) := by decide +kernel
theorem d_MO_call_18 : decode b_MO_call 18 = .ok (.aload_n 0, 1) := by decide +kernel
theorem d_MO_call_19 : decode b_MO_call 19 = .ok (.getfield 58, 3) := by decide +kernel
theorem d_MO_call_22 : decode b_MO_call 22 = .ok (.iconst 1, 1) := by decide +kernel
theorem d_MO_call_23 : decode b_MO_call 23 = .ok (.isub, 1) := by decide +kernel
theorem d_MO_call_24 : decode b_MO_call 24 = .ok (.iload_n 2, 1) := by decide +kernel
theorem d_MO_call_25 : decode b_MO_call 25 = .ok (.iastore, 1) := by decide +kernel
theorem d_MO_call_26 : decode b_MO_call 26 = .ok (.return_, 1) := by decide +kernel
theorem d_MO_leave_0 : decode b_MO_leave 0 = .ok (.iconst 3, 1) := by decide +kernel
theorem d_MO_leave_1 : decode b_MO_leave 1 = .ok (.aload_n 0, 1) := by decide +kernel
theorem d_MO_leave_2 : decode b_MO_leave 2 = .ok (.getfield 111, 3) := by decide +kernel
theorem d_MO_leave_5 : decode b_MO_leave 5 = .ok (.imul, 1) := by decide +kernel
theorem d_MO_leave_6 : decode b_MO_leave 6 = .ok (.iconst 3, 1) := by decide +kernel
theorem d_MO_leave_7 : decode b_MO_leave 7 = .ok (.isub, 1) := by decide +kernel
theorem d_MO_leave_8 : decode b_MO_leave 8 = .ok (.iload_n 1, 1) := by decide +kernel
theorem d_MO_leave_9 : decode b_MO_leave 9 = .ok (.iadd, 1) := by decide +kernel
theorem d_MO_leave_10 : decode b_MO_leave 10 = .ok (.istore_n 2, 1) := by decide +kernel
theorem d_MO_leave_11 : decode b_MO_leave 11 = .ok (.aload_n 0, 1) := by decide +kernel
theorem d_MO_leave_12 : decode b_MO_leave 12 = .ok (.getfield 35, 3) := by decide +kernel
theorem d_MO_leave_15 : decode b_MO_leave 15 = .ok (.iload_n 2, 1) := by decide +kernel
theorem d_MO_leave_16 : decode b_MO_leave 16 = .ok (.iaload, 1) := by decide +kernel
theorem d_MO_leave_17 : decode b_MO_leave 17 = .ok (.ifCond .ne 10, 3) := by decide +kernel
theorem d_MO_leave_20 : decode b_MO_leave 20 = .ok (.aload_n 0, 1) := by decide +kernel
theorem d_MO_leave_21 : decode b_MO_leave 21 = .ok (.iconst 4, 1) := by decide +kernel
theorem d_MO_leave_22 : decode b_MO_leave 22 = .ok (.iconst 0, 1) := by decide +kernel
theorem d_MO_leave_23 : decode b_MO_leave 23 = .ok (.invokevirtual 124, 3) := by decide +kernel
theorem d_MO_leave_26 : decode b_MO_leave 26 = .ok (.return_, 1) := by decide +kernel
theorem d_MO_leave_27 : decode b_MO_leave 27 = .ok (.aload_n 0, 1) := by decide +kernel
theorem d_MO_leave_28 : decode b_MO_leave 28 = .ok (.getfield 35, 3) := by decide +kernel
theorem d_MO_leave_31 : decode b_MO_leave 31 = .ok (.iload_n 2, 1) := by decide +kernel
theorem d_MO_leave_32 : decode b_MO_leave 32 = .ok (.dup2, 1) := by decide +kernel
theorem d_MO_leave_33 : decode b_MO_leave 33 = .ok (.iaload, 1) := by decide +kernel
theorem d_MO_leave_34 : decode b_MO_leave 34 = .ok (.iconst 1, 1) := by decide +kernel
theorem d_MO_leave_35 : decode b_MO_leave 35 = .ok (.isub, 1) := by decide +kernel
theorem d_MO_leave_36 : decode b_MO_leave 36 = .ok (.iastore, 1) := by decide +kernel
theorem d_MO_leave_37 : decode b_MO_leave 37 = .ok (.aload_n 0, 1) := by decide +kernel
theorem d_MO_leave_38 : decode b_MO_leave 38 = .ok (.getfield 38, 3) := by decide +kernel
theorem d_MO_leave_41 : decode b_MO_leave 41 = .ok (.iload_n 1, 1) := by decide +kernel
theorem d_MO_leave_42 : decode b_MO_leave 42 = .ok (.dup2, 1) := by decide +kernel
theorem d_MO_leave_43 : decode b_MO_leave 43 = .ok (.iaload, 1) := by decide +kernel
theorem d_MO_leave_44 : decode b_MO_leave 44 = .ok (.iconst 1, 1) := by decide +kernel
theorem d_MO_leave_45 : decode b_MO_leave 45 = .ok (.isub, 1) := by decide +kernel
theorem d_MO_leave_46 : decode b_MO_leave 46 = .ok (.iastore, 1) := by decide +kernel
theorem d_MO_leave_47 : decode b_MO_leave 47 = .ok (.return_, 1) := by decide +kernel
theorem d_MO_note_0 : decode b_MO_note 0 = .ok (.bipush 31, 2) := by decide +kernel
theorem d_MO_note_2 : decode b_MO_note 2 = .ok (.istore_n 2, 1) := by decide +kernel
theorem d_MO_note_3 : decode b_MO_note 3 = .ok (.iload_n 2, 1) := by decide +kernel
theorem d_MO_note_4 : decode b_MO_note 4 = .ok (.ifCond .le 23, 3) := by decide +kernel
theorem d_MO_note_7 : decode b_MO_note 7 = .ok (.aload_n 0, 1) := by decide +kernel
theorem d_MO_note_8 : decode b_MO_note 8 = .ok (.getfield 47, 3) := by decide +kernel
theorem d_MO_note_11 : decode b_MO_note 11 = .ok (.iload_n 2, 1) := by decide +kernel
theorem d_MO_note_12 : decode b_MO_note 12 = .ok (.aload_n 0, 1) := by decide +kernel
theorem d_MO_note_13 : decode b_MO_note 13 = .ok (.getfield 47, 3) := by decide +kernel
theorem d_MO_note_16 : decode b_MO_note 16 = .ok (.iload_n 2, 1) := by decide +kernel
theorem d_MO_note_17 : decode b_MO_note 17 = .ok (.iconst 1, 1) := by decide +kernel
theorem d_MO_note_18 : decode b_MO_note 18 = .ok (.isub, 1) := by decide +kernel
theorem d_MO_note_19 : decode b_MO_note 19 = .ok (.iaload, 1) := by decide +kernel
theorem d_MO_note_20 : decode b_MO_note 20 = .ok (.iastore, 1) := by decide +kernel
theorem d_MO_note_21 : decode b_MO_note 21 = .ok (.iinc 2 (-1), 3) := by decide +kernel
theorem d_MO_note_24 : decode b_MO_note 24 = .ok (.goto (-21), 3) := by decide +kernel
theorem d_MO_note_27 : decode b_MO_note 27 = .ok (.aload_n 0, 1) := by decide +kernel
theorem d_MO_note_28 : decode b_MO_note 28 = .ok (.getfield 47, 3) := by decide +kernel
theorem d_MO_note_31 : decode b_MO_note 31 = .ok (.iconst 0, 1) := by decide +kernel
theorem d_MO_note_32 : decode b_MO_note 32 = .ok (.iload_n 1, 1) := by decide +kernel
theorem d_MO_note_33 : decode b_MO_note 33 = .ok (.iastore, 1) := by decide +kernel
theorem d_MO_note_34 : decode b_MO_note 34 = .ok (.aload_n 0, 1) := by decide +kernel
theorem d_MO_note_35 : decode b_MO_note 35 = .ok (.dup, 1) := by decide +kernel
theorem d_MO_note_36 : decode b_MO_note 36 = .ok (.getfield 143, 3) := by decide +kernel
theorem d_MO_note_39 : decode b_MO_note 39 = .ok (.iconst 1, 1) := by decide +kernel
theorem d_MO_note_40 : decode b_MO_note 40 = .ok (.iadd, 1) := by decide +kernel
theorem d_MO_note_41 : decode b_MO_note 41 = .ok (.putfield 143, 3) := by decide +kernel
theorem d_MO_note_44 : decode b_MO_note 44 = .ok (.return_, 1) := by decide +kernel
theorem d_MO_lastOf_0 : decode b_MO_lastOf 0 = .ok (.aload_n 0, 1) := by decide +kernel
theorem d_MO_lastOf_1 : decode b_MO_lastOf 1 = .ok (.getfield 13, 3) := by decide +kernel
theorem d_MO_lastOf_4 : decode b_MO_lastOf 4 = .ok (.iload_n 1, 1) := by decide +kernel
theorem d_MO_lastOf_5 : decode b_MO_lastOf 5 = .ok (.iaload, 1) := by decide +kernel
theorem d_MO_lastOf_6 : decode b_MO_lastOf 6 = .ok (.iconst 4, 1) := by decide +kernel
theorem d_MO_lastOf_7 : decode b_MO_lastOf 7 = .ok (.if_icmp .ge 20, 3) := by decide +kernel
theorem d_MO_lastOf_10 : decode b_MO_lastOf 10 = .ok (.aload_n 0, 1) := by decide +kernel
theorem d_MO_lastOf_11 : decode b_MO_lastOf 11 = .ok (.getfield 92, 3) := by decide +kernel
theorem d_MO_lastOf_14 : decode b_MO_lastOf 14 = .ok (.ifCond .ne 12, 3) := by decide +kernel
theorem d_MO_lastOf_17 : decode b_MO_lastOf 17 = .ok (.aload_n 0, 1) := by decide +kernel
theorem d_MO_lastOf_18 : decode b_MO_lastOf 18 = .ok (.aload_n 0, 1) := by decide +kernel
theorem d_MO_lastOf_19 : decode b_MO_lastOf 19 = .ok (.iload_n 1, 1) := by decide +kernel
theorem d_MO_lastOf_20 : decode b_MO_lastOf 20 = .ok (.invokevirtual 146, 3) := by decide +kernel
theorem d_MO_lastOf_23 : decode b_MO_lastOf 23 = .ok (.putfield 86, 3) := by decide +kernel
theorem d_MO_lastOf_26 : decode b_MO_lastOf 26 = .ok (.return_, 1) := by decide +kernel
theorem d_MO_lastOf_27 : decode b_MO_lastOf 27 = .ok (.aload_n 0, 1) := by decide +kernel
theorem d_MO_lastOf_28 : decode b_MO_lastOf 28 = .ok (.getfield 92, 3) := by decide +kernel
theorem d_MO_lastOf_31 : decode b_MO_lastOf 31 = .ok (.istore_n 2, 1) := by decide +kernel
theorem d_MO_lastOf_32 : decode b_MO_lastOf 32 = .ok (.aload_n 0, 1) := by decide +kernel
theorem d_MO_lastOf_33 : decode b_MO_lastOf 33 = .ok (.getfield 95, 3) := by decide +kernel
theorem d_MO_lastOf_36 : decode b_MO_lastOf 36 = .ok (.istore_n 3, 1) := by decide +kernel
theorem d_MO_lastOf_37 : decode b_MO_lastOf 37 = .ok (.aload_n 0, 1) := by decide +kernel
theorem d_MO_lastOf_38 : decode b_MO_lastOf 38 = .ok (.bipush 17, 2) := by decide +kernel
theorem d_MO_lastOf_40 : decode b_MO_lastOf 40 = .ok (.aload_n 0, 1) := by decide +kernel
theorem d_MO_lastOf_41 : decode b_MO_lastOf 41 = .ok (.iload_n 1, 1) := by decide +kernel
theorem d_MO_lastOf_42 : decode b_MO_lastOf 42 = .ok (.aload_n 0, 1) := by decide +kernel
theorem d_MO_lastOf_43 : decode b_MO_lastOf 43 = .ok (.getfield 13, 3) := by decide +kernel
theorem d_MO_lastOf_46 : decode b_MO_lastOf 46 = .ok (.iload_n 1, 1) := by decide +kernel
theorem d_MO_lastOf_47 : decode b_MO_lastOf 47 = .ok (.iaload, 1) := by decide +kernel
theorem d_MO_lastOf_48 : decode b_MO_lastOf 48 = .ok (.iconst 3, 1) := by decide +kernel
theorem d_MO_lastOf_49 : decode b_MO_lastOf 49 = .ok (.iand, 1) := by decide +kernel
theorem d_MO_lastOf_50 : decode b_MO_lastOf 50 = .ok (.invokevirtual 82, 3) := by decide +kernel
theorem d_MO_lastOf_53 : decode b_MO_lastOf 53 = .ok (.iload_n 3, 1) := by decide +kernel
theorem d_MO_lastOf_54 : decode b_MO_lastOf 54 = .ok (.invokevirtual 107, 3) := by decide +kernel
theorem d_MO_lastOf_57 : decode b_MO_lastOf 57 = .ok (.aload_n 0, 1) := by decide +kernel
theorem d_MO_lastOf_58 : decode b_MO_lastOf 58 = .ok (.getfield 32, 3) := by decide +kernel
theorem d_MO_lastOf_61 : decode b_MO_lastOf 61 = .ok (.aload_n 0, 1) := by decide +kernel
theorem d_MO_lastOf_62 : decode b_MO_lastOf 62 = .ok (.getfield 58, 3) := by decide +kernel
theorem d_MO_lastOf_65 : decode b_MO_lastOf 65 = .ok (.iconst 1, 1) := by decide +kernel
theorem d_MO_lastOf_66 : decode b_MO_lastOf 66 = .ok (.isub, 1) := by decide +kernel
theorem d_MO_lastOf_67 : decode b_MO_lastOf 67 = .ok (.iload_n 2, 1) := by decide +kernel
theorem d_MO_lastOf_68 : decode b_MO_lastOf 68 = .ok (.bipush 8, 2) := by decide +kernel
theorem d_MO_lastOf_70 : decode b_MO_lastOf 70 = .ok (.iload_n 1, 1) := by decide +kernel
theorem d_MO_lastOf_71 : decode b_MO_lastOf 71 = .ok (.imul, 1) := by decide +kernel
theorem d_MO_lastOf_72 : decode b_MO_lastOf 72 = .ok (.iadd, 1) := by decide +kernel
theorem d_MO_lastOf_73 : decode b_MO_lastOf 73 = .ok (.iastore, 1) := by decide +kernel
theorem d_MO_lastOf_74 : decode b_MO_lastOf 74 = .ok (.aload_n 0, 1) := by decide +kernel
theorem d_MO_lastOf_75 : decode b_MO_lastOf 75 = .ok (.iconst 0, 1) := by decide +kernel
theorem d_MO_lastOf_76 : decode b_MO_lastOf 76 = .ok (.putfield 92, 3) := by decide +kernel
theorem d_MO_lastOf_79 : decode b_MO_lastOf 79 = .ok (.return_, 1) := by decide +kernel
theorem d_MO_close_0 : decode b_MO_close 0 = .ok (.aload_n 0, 1) := by decide +kernel
theorem d_MO_close_1 : decode b_MO_close 1 = .ok (.dup, 1) := by decide +kernel
theorem d_MO_close_2 : decode b_MO_close 2 = .ok (.getfield 58, 3) := by decide +kernel
theorem d_MO_close_5 : decode b_MO_close 5 = .ok (.iconst 1, 1) := by decide +kernel
theorem d_MO_close_6 : decode b_MO_close 6 = .ok (.isub, 1) := by decide +kernel
theorem d_MO_close_7 : decode b_MO_close 7 = .ok (.putfield 58, 3) := by decide +kernel
theorem d_MO_close_10 : decode b_MO_close 10 = .ok (.aload_n 0, 1) := by decide +kernel
theorem d_MO_close_11 : decode b_MO_close 11 = .ok (.getfield 23, 3) := by decide +kernel
theorem d_MO_close_14 : decode b_MO_close 14 = .ok (.aload_n 0, 1) := by decide +kernel
theorem d_MO_close_15 : decode b_MO_close 15 = .ok (.getfield 58, 3) := by decide +kernel
theorem d_MO_close_18 : decode b_MO_close 18 = .ok (.iaload, 1) := by decide +kernel
theorem d_MO_close_19 : decode b_MO_close 19 = .ok (.istore_n 1, 1) := by decide +kernel
theorem d_MO_close_20 : decode b_MO_close 20 = .ok (.aload_n 0, 1) := by decide +kernel
theorem d_MO_close_21 : decode b_MO_close 21 = .ok (.getfield 26, 3) := by decide +kernel
theorem d_MO_close_24 : decode b_MO_close 24 = .ok (.aload_n 0, 1) := by decide +kernel
theorem d_MO_close_25 : decode b_MO_close 25 = .ok (.getfield 58, 3) := by decide +kernel
theorem d_MO_close_28 : decode b_MO_close 28 = .ok (.iaload, 1) := by decide +kernel
theorem d_MO_close_29 : decode b_MO_close 29 = .ok (.istore_n 2, 1) := by decide +kernel
theorem d_MO_close_30 : decode b_MO_close 30 = .ok (.aload_n 0, 1) := by decide +kernel
theorem d_MO_close_31 : decode b_MO_close 31 = .ok (.getfield 29, 3) := by decide +kernel
theorem d_MO_close_34 : decode b_MO_close 34 = .ok (.aload_n 0, 1) := by decide +kernel
theorem d_MO_close_35 : decode b_MO_close 35 = .ok (.getfield 58, 3) := by decide +kernel
theorem d_MO_close_38 : decode b_MO_close 38 = .ok (.iaload, 1) := by decide +kernel
theorem d_MO_close_39 : decode b_MO_close 39 = .ok (.istore_n 3, 1) := by decide +kernel
theorem d_MO_close_40 : decode b_MO_close 40 = .ok (.iload_n 1, 1) := by decide +kernel
theorem d_MO_close_41 : decode b_MO_close 41 = .ok (.iconst 3, 1) := by decide +kernel
theorem d_MO_close_42 : decode b_MO_close 42 = .ok (.if_icmp .ne 75, 3) := by decide +kernel
theorem d_MO_close_45 : decode b_MO_close 45 = .ok (.aload_n 0, 1) := by decide +kernel
theorem d_MO_close_46 : decode b_MO_close 46 = .ok (.getfield 92, 3) := by decide +kernel
theorem d_MO_close_49 : decode b_MO_close 49 = .ok (.ifCond .ne 8, 3) := by decide +kernel
theorem d_MO_close_52 : decode b_MO_close 52 = .ok (.iload_n 3, 1) := by decide +kernel
theorem d_MO_close_53 : decode b_MO_close 53 = .ok (.iconst 1, 1) := by decide +kernel
theorem d_MO_close_54 : decode b_MO_close 54 = .ok (.if_icmp .gt 16, 3) := by decide +kernel
theorem d_MO_close_57 : decode b_MO_close 57 = .ok (.aload_n 0, 1) := by decide +kernel
theorem d_MO_close_58 : decode b_MO_close 58 = .ok (.getfield 92, 3) := by decide +kernel
theorem d_MO_close_61 : decode b_MO_close 61 = .ok (.iconst 2, 1) := by decide +kernel
theorem d_MO_close_62 : decode b_MO_close 62 = .ok (.if_icmp .ne 20, 3) := by decide +kernel
theorem d_MO_close_65 : decode b_MO_close 65 = .ok (.iload_n 3, 1) := by decide +kernel
theorem d_MO_close_66 : decode b_MO_close 66 = .ok (.iconst 1, 1) := by decide +kernel
theorem d_MO_close_67 : decode b_MO_close 67 = .ok (.if_icmp .le 15, 3) := by decide +kernel
theorem d_MO_close_70 : decode b_MO_close 70 = .ok (.aload_n 0, 1) := by decide +kernel
theorem d_MO_close_71 : decode b_MO_close 71 = .ok (.iconst 3, 1) := by decide +kernel
theorem d_MO_close_72 : decode b_MO_close 72 = .ok (.iload_n 2, 1) := by decide +kernel
theorem d_MO_close_73 : decode b_MO_close 73 = .ok (.iload_n 3, 1) := by decide +kernel
theorem d_MO_close_74 : decode b_MO_close 74 = .ok (.iconst 1, 1) := by decide +kernel
theorem d_MO_close_75 : decode b_MO_close 75 = .ok (.isub, 1) := by decide +kernel
theorem d_MO_close_76 : decode b_MO_close 76 = .ok (.invokevirtual 107, 3) := by decide +kernel
theorem d_MO_close_79 : decode b_MO_close 79 = .ok (.goto 22, 3) := by decide +kernel
theorem d_MO_close_82 : decode b_MO_close 82 = .ok (.aload_n 0, 1) := by decide +kernel
theorem d_MO_close_83 : decode b_MO_close 83 = .ok (.getfield 92, 3) := by decide +kernel
theorem d_MO_close_86 : decode b_MO_close 86 = .ok (.iconst 2, 1) := by decide +kernel
theorem d_MO_close_87 : decode b_MO_close 87 = .ok (.if_icmp .gt 14, 3) := by decide +kernel
theorem d_MO_close_90 : decode b_MO_close 90 = .ok (.aload_n 0, 1) := by decide +kernel
theorem d_MO_close_91 : decode b_MO_close 91 = .ok (.aload_n 0, 1) := by decide +kernel
theorem d_MO_close_92 : decode b_MO_close 92 = .ok (.iload_n 2, 1) := by decide +kernel
theorem d_MO_close_93 : decode b_MO_close 93 = .ok (.iconst 1, 1) := by decide +kernel
theorem d_MO_close_94 : decode b_MO_close 94 = .ok (.iadd, 1) := by decide +kernel
theorem d_MO_close_95 : decode b_MO_close 95 = .ok (.invokevirtual 79, 3) := by decide +kernel
theorem d_MO_close_98 : decode b_MO_close 98 = .ok (.putfield 86, 3) := by decide +kernel
theorem d_MO_close_101 : decode b_MO_close 101 = .ok (.aload_n 0, 1) := by decide +kernel
theorem d_MO_close_102 : decode b_MO_close 102 = .ok (.getfield 92, 3) := by decide +kernel
theorem d_MO_close_105 : decode b_MO_close 105 = .ok (.iconst 2, 1) := by decide +kernel
theorem d_MO_close_106 : decode b_MO_close 106 = .ok (.if_icmp .gt 224, 3) := by decide +kernel
theorem d_MO_close_109 : decode b_MO_close 109 = .ok (.aload_n 0, 1) := by decide +kernel
theorem d_MO_close_110 : decode b_MO_close 110 = .ok (.iconst 0, 1) := by decide +kernel
theorem d_MO_close_111 : decode b_MO_close 111 = .ok (.putfield 92, 3) := by decide +kernel
theorem d_MO_close_114 : decode b_MO_close 114 = .ok (.goto 216, 3) := by decide +kernel
theorem d_MO_close_117 : decode b_MO_close 117 = .ok (.iload_n 1, 1) := by decide +kernel
theorem d_MO_close_118 : decode b_MO_close 118 = .ok (.bipush 10, 2) := by decide +kernel
theorem d_MO_close_120 : decode b_MO_close 120 = .ok (.if_icmp .ne 34, 3) := by decide +kernel
theorem d_MO_close_123 : decode b_MO_close 123 = .ok (.aload_n 0, 1) := by decide +kernel
theorem d_MO_close_124 : decode b_MO_close 124 = .ok (.getfield 38, 3) := by decide +kernel
theorem d_MO_close_127 : decode b_MO_close 127 = .ok (.iload_n 3, 1) := by decide +kernel
theorem d_MO_close_128 : decode b_MO_close 128 = .ok (.dup2, 1) := by decide +kernel
theorem d_MO_close_129 : decode b_MO_close 129 = .ok (.iaload, 1) := by decide +kernel
theorem d_MO_close_130 : decode b_MO_close 130 = .ok (.iconst 1, 1) := by decide +kernel
theorem d_MO_close_131 : decode b_MO_close 131 = .ok (.isub, 1) := by decide +kernel
theorem d_MO_close_132 : decode b_MO_close 132 = .ok (.iastore, 1) := by decide +kernel
theorem d_MO_close_133 : decode b_MO_close 133 = .ok (.aload_n 0, 1) := by decide +kernel
theorem d_MO_close_134 : decode b_MO_close 134 = .ok (.getfield 92, 3) := by decide +kernel
theorem d_MO_close_137 : decode b_MO_close 137 = .ok (.ifCond .ne 193, 3) := by decide +kernel
theorem d_MO_close_140 : decode b_MO_close 140 = .ok (.aload_n 0, 1) := by decide +kernel
theorem d_MO_close_141 : decode b_MO_close 141 = .ok (.aload_n 0, 1) := by decide +kernel
theorem d_MO_close_142 : decode b_MO_close 142 = .ok (.iload_n 2, 1) := by decide +kernel
theorem d_MO_close_143 : decode b_MO_close 143 = .ok (.iconst 1, 1) := by decide +kernel
theorem d_MO_close_144 : decode b_MO_close 144 = .ok (.iadd, 1) := by decide +kernel
theorem d_MO_close_145 : decode b_MO_close 145 = .ok (.invokevirtual 79, 3) := by decide +kernel
theorem d_MO_close_148 : decode b_MO_close 148 = .ok (.putfield 86, 3) := by decide +kernel
theorem d_MO_close_151 : decode b_MO_close 151 = .ok (.goto 179, 3) := by decide +kernel
theorem d_MO_close_154 : decode b_MO_close 154 = .ok (.iload_n 1, 1) := by decide +kernel
theorem d_MO_close_155 : decode b_MO_close 155 = .ok (.bipush 14, 2) := by decide +kernel
theorem d_MO_close_157 : decode b_MO_close 157 = .ok (.if_icmp .ne 24, 3) := by decide +kernel
theorem d_MO_close_160 : decode b_MO_close 160 = .ok (.aload_n 0, 1) := by decide +kernel
theorem d_MO_close_161 : decode b_MO_close 161 = .ok (.getfield 92, 3) := by decide +kernel
theorem d_MO_close_164 : decode b_MO_close 164 = .ok (.ifCond .ne 166, 3) := by decide +kernel
theorem d_MO_close_167 : decode b_MO_close 167 = .ok (.aload_n 0, 1) := by decide +kernel
theorem d_MO_close_168 : decode b_MO_close 168 = .ok (.aload_n 0, 1) := by decide +kernel
theorem d_MO_close_169 : decode b_MO_close 169 = .ok (.iload_n 2, 1) := by decide +kernel
theorem d_MO_close_170 : decode b_MO_close 170 = .ok (.iconst 1, 1) := by decide +kernel
theorem d_MO_close_171 : decode b_MO_close 171 = .ok (.iadd, 1) := by decide +kernel
theorem d_MO_close_172 : decode b_MO_close 172 = .ok (.invokevirtual 79, 3) := by decide +kernel
theorem d_MO_close_175 : decode b_MO_close 175 = .ok (.putfield 86, 3) := by decide +kernel
theorem d_MO_close_178 : decode b_MO_close 178 = .ok (.goto 152, 3) := by decide +kernel
theorem d_MO_close_181 : decode b_MO_close 181 = .ok (.iload_n 1, 1) := by decide +kernel
theorem d_MO_close_182 : decode b_MO_close 182 = .ok (.bipush 9, 2) := by decide +kernel
theorem d_MO_close_184 : decode b_MO_close 184 = .ok (.if_icmp .ne 72, 3) := by decide +kernel
theorem d_MO_close_187 : decode b_MO_close 187 = .ok (.aload_n 0, 1) := by decide +kernel
theorem d_MO_close_188 : decode b_MO_close 188 = .ok (.getfield 92, 3) := by decide +kernel
theorem d_MO_close_191 : decode b_MO_close 191 = .ok (.iconst 4, 1) := by decide +kernel
theorem d_MO_close_192 : decode b_MO_close 192 = .ok (.if_icmp .ne 11, 3) := by decide +kernel
theorem d_MO_close_195 : decode b_MO_close 195 = .ok (.aload_n 0, 1) := by decide +kernel
theorem d_MO_close_196 : decode b_MO_close 196 = .ok (.iload_n 2, 1) := by decide +kernel
theorem d_MO_close_197 : decode b_MO_close 197 = .ok (.invokevirtual 149, 3) := by decide +kernel
theorem d_MO_close_200 : decode b_MO_close 200 = .ok (.goto 4, 3) := by decide +kernel
theorem d_MO_close_203 : decode b_MO_close 203 = .ok (.iconst (-1), 1) := by decide +kernel
theorem d_MO_close_204 : decode b_MO_close 204 = .ok (.istore 4, 2) := by decide +kernel
theorem d_MO_close_206 : decode b_MO_close 206 = .ok (.iload 4, 2) := by decide +kernel
theorem d_MO_close_208 : decode b_MO_close 208 = .ok (.ifCond .ge 11, 3) := by decide +kernel
theorem d_MO_close_211 : decode b_MO_close 211 = .ok (.aload_n 0, 1) := by decide +kernel
theorem d_MO_close_212 : decode b_MO_close 212 = .ok (.iload_n 2, 1) := by decide +kernel
theorem d_MO_close_213 : decode b_MO_close 213 = .ok (.invokevirtual 152, 3) := by decide +kernel
theorem d_MO_close_216 : decode b_MO_close 216 = .ok (.goto 37, 3) := by decide +kernel
theorem d_MO_close_219 : decode b_MO_close 219 = .ok (.aload_n 0, 1) := by decide +kernel
theorem d_MO_close_220 : decode b_MO_close 220 = .ok (.iconst 0, 1) := by decide +kernel
theorem d_MO_close_221 : decode b_MO_close 221 = .ok (.putfield 92, 3) := by decide +kernel
theorem d_MO_close_224 : decode b_MO_close 224 = .ok (.aload_n 0, 1) := by decide +kernel
theorem d_MO_close_225 : decode b_MO_close 225 = .ok (.bipush 16, 2) := by decide +kernel
theorem d_MO_close_227 : decode b_MO_close 227 = .ok (.aload_n 0, 1) := by decide +kernel
theorem d_MO_close_228 : decode b_MO_close 228 = .ok (.iload_n 2, 1) := by decide +kernel
theorem d_MO_close_229 : decode b_MO_close 229 = .ok (.iload 4, 2) := by decide +kernel
theorem d_MO_close_231 : decode b_MO_close 231 = .ok (.invokevirtual 82, 3) := by decide +kernel
theorem d_MO_close_234 : decode b_MO_close 234 = .ok (.aload_n 0, 1) := by decide +kernel
theorem d_MO_close_235 : decode b_MO_close 235 = .ok (.getfield 95, 3) := by decide +kernel
theorem d_MO_close_238 : decode b_MO_close 238 = .ok (.invokevirtual 107, 3) := by decide +kernel
theorem d_MO_close_241 : decode b_MO_close 241 = .ok (.aload_n 0, 1) := by decide +kernel
theorem d_MO_close_242 : decode b_MO_close 242 = .ok (.getfield 32, 3) := by decide +kernel
theorem d_MO_close_245 : decode b_MO_close 245 = .ok (.aload_n 0, 1) := by decide +kernel
theorem d_MO_close_246 : decode b_MO_close 246 = .ok (.getfield 58, 3) := by decide +kernel
theorem d_MO_close_249 : decode b_MO_close 249 = .ok (.iconst 1, 1) := by decide +kernel
theorem d_MO_close_250 : decode b_MO_close 250 = .ok (.isub, 1) := by decide +kernel
theorem d_MO_close_251 : decode b_MO_close 251 = .ok (.iload_n 2, 1) := by decide +kernel
theorem d_MO_close_252 : decode b_MO_close 252 = .ok (.iastore, 1) := by decide +kernel
theorem d_MO_close_253 : decode b_MO_close 253 = .ok (.goto 77, 3) := by decide +kernel
theorem d_MO_close_256 : decode b_MO_close 256 = .ok (.iload_n 1, 1) := by decide +kernel
theorem d_MO_close_257 : decode b_MO_close 257 = .ok (.bipush 16, 2) := by decide +kernel
theorem d_MO_close_259 : decode b_MO_close 259 = .ok (.if_icmp .ne 19, 3) := by decide +kernel
theorem d_MO_close_262 : decode b_MO_close 262 = .ok (.aload_n 0, 1) := by decide +kernel
theorem d_MO_close_263 : decode b_MO_close 263 = .ok (.aload_n 0, 1) := by decide +kernel
theorem d_MO_close_264 : decode b_MO_close 264 = .ok (.getfield 32, 3) := by decide +kernel
theorem d_MO_close_267 : decode b_MO_close 267 = .ok (.aload_n 0, 1) := by decide +kernel
theorem d_MO_close_268 : decode b_MO_close 268 = .ok (.getfield 58, 3) := by decide +kernel
theorem d_MO_close_271 : decode b_MO_close 271 = .ok (.iaload, 1) := by decide +kernel
theorem d_MO_close_272 : decode b_MO_close 272 = .ok (.invokevirtual 152, 3) := by decide +kernel
theorem d_MO_close_275 : decode b_MO_close 275 = .ok (.goto 55, 3) := by decide +kernel
theorem d_MO_close_278 : decode b_MO_close 278 = .ok (.iload_n 1, 1) := by decide +kernel
theorem d_MO_close_279 : decode b_MO_close 279 = .ok (.bipush 17, 2) := by decide +kernel
theorem d_MO_close_281 : decode b_MO_close 281 = .ok (.if_icmp .ne 35, 3) := by decide +kernel
theorem d_MO_close_284 : decode b_MO_close 284 = .ok (.aload_n 0, 1) := by decide +kernel
theorem d_MO_close_285 : decode b_MO_close 285 = .ok (.aload_n 0, 1) := by decide +kernel
theorem d_MO_close_286 : decode b_MO_close 286 = .ok (.getfield 32, 3) := by decide +kernel
theorem d_MO_close_289 : decode b_MO_close 289 = .ok (.aload_n 0, 1) := by decide +kernel
theorem d_MO_close_290 : decode b_MO_close 290 = .ok (.getfield 58, 3) := by decide +kernel
theorem d_MO_close_293 : decode b_MO_close 293 = .ok (.iaload, 1) := by decide +kernel
theorem d_MO_close_294 : decode b_MO_close 294 = .ok (.bipush 8, 2) := by decide +kernel
theorem d_MO_close_296 : decode b_MO_close 296 = .ok (.idiv, 1) := by decide +kernel
theorem d_MO_close_297 : decode b_MO_close 297 = .ok (.aload_n 0, 1) := by decide +kernel
theorem d_MO_close_298 : decode b_MO_close 298 = .ok (.getfield 32, 3) := by decide +kernel
theorem d_MO_close_301 : decode b_MO_close 301 = .ok (.aload_n 0, 1) := by decide +kernel
theorem d_MO_close_302 : decode b_MO_close 302 = .ok (.getfield 58, 3) := by decide +kernel
theorem d_MO_close_305 : decode b_MO_close 305 = .ok (.iaload, 1) := by decide +kernel
theorem d_MO_close_306 : decode b_MO_close 306 = .ok (.bipush 8, 2) := by decide +kernel
theorem d_MO_close_308 : decode b_MO_close 308 = .ok (.irem, 1) := by decide +kernel
theorem d_MO_close_309 : decode b_MO_close 309 = .ok (.iload_n 3, 1) := by decide +kernel
theorem d_MO_close_310 : decode b_MO_close 310 = .ok (.invokevirtual 155, 3) := by decide +kernel
theorem d_MO_close_313 : decode b_MO_close 313 = .ok (.goto 17, 3) := by decide +kernel
theorem d_MO_close_316 : decode b_MO_close 316 = .ok (.aload_n 0, 1) := by decide +kernel
theorem d_MO_close_317 : decode b_MO_close 317 = .ok (.aload_n 0, 1) := by decide +kernel
theorem d_MO_close_318 : decode b_MO_close 318 = .ok (.getfield 32, 3) := by decide +kernel
theorem d_MO_close_321 : decode b_MO_close 321 = .ok (.aload_n 0, 1) := by decide +kernel
theorem d_MO_close_322 : decode b_MO_close 322 = .ok (.getfield 58, 3) := by decide +kernel
theorem d_MO_close_325 : decode b_MO_close 325 = .ok (.iaload, 1) := by decide +kernel
theorem d_MO_close_326 : decode b_MO_close 326 = .ok (.iload_n 3, 1) := by decide +kernel
theorem d_MO_close_327 : decode b_MO_close 327 = .ok (.invokevirtual 158, 3) := by decide +kernel
theorem d_MO_close_330 : decode b_MO_close 330 = .ok (.return_, 1) := by decide +kernel
theorem d_MO_catcher_0 : decode b_MO_catcher 0 = .ok (.iconst 0, 1) := by decide +kernel
theorem d_MO_catcher_1 : decode b_MO_catcher 1 = .ok (.istore_n 2, 1) := by decide +kernel
theorem d_MO_catcher_2 : decode b_MO_catcher 2 = .ok (.iload_n 2, 1) := by decide +kernel
theorem d_MO_catcher_3 : decode b_MO_catcher 3 = .ok (.aload_n 0, 1) := by decide +kernel
theorem d_MO_catcher_4 : decode b_MO_catcher 4 = .ok (.getfield 13, 3) := by decide +kernel
theorem d_MO_catcher_7 : decode b_MO_catcher 7 = .ok (.iload_n 1, 1) := by decide +kernel
theorem d_MO_catcher_8 : decode b_MO_catcher 8 = .ok (.iaload, 1) := by decide +kernel
theorem d_MO_catcher_9 : decode b_MO_catcher 9 = .ok (.iconst 3, 1) := by decide +kernel
theorem d_MO_catcher_10 : decode b_MO_catcher 10 = .ok (.iand, 1) := by decide +kernel
theorem d_MO_catcher_11 : decode b_MO_catcher 11 = .ok (.if_icmp .ge 37, 3) := by decide +kernel
theorem d_MO_catcher_14 : decode b_MO_catcher 14 = .ok (.aload_n 0, 1) := by decide +kernel
theorem d_MO_catcher_15 : decode b_MO_catcher 15 = .ok (.getfield 41, 3) := by decide +kernel
theorem d_MO_catcher_18 : decode b_MO_catcher 18 = .ok (.aload_n 0, 1) := by decide +kernel
theorem d_MO_catcher_19 : decode b_MO_catcher 19 = .ok (.getfield 95, 3) := by decide +kernel
theorem d_MO_catcher_22 : decode b_MO_catcher 22 = .ok (.iaload, 1) := by decide +kernel
theorem d_MO_catcher_23 : decode b_MO_catcher 23 = .ok (.aload_n 0, 1) := by decide +kernel
theorem d_MO_catcher_24 : decode b_MO_catcher 24 = .ok (.getfield 13, 3) := by decide +kernel
theorem d_MO_catcher_27 : decode b_MO_catcher 27 = .ok (.aload_n 0, 1) := by decide +kernel
theorem d_MO_catcher_28 : decode b_MO_catcher 28 = .ok (.iload_n 1, 1) := by decide +kernel
theorem d_MO_catcher_29 : decode b_MO_catcher 29 = .ok (.iload_n 2, 1) := by decide +kernel
theorem d_MO_catcher_30 : decode b_MO_catcher 30 = .ok (.invokevirtual 82, 3) := by decide +kernel
theorem d_MO_catcher_33 : decode b_MO_catcher 33 = .ok (.iaload, 1) := by decide +kernel
theorem d_MO_catcher_34 : decode b_MO_catcher 34 = .ok (.invokestatic 161, 3) := by decide +kernel
theorem d_MO_catcher_37 : decode b_MO_catcher 37 = .ok (.ifCond .eq 5, 3) := by decide +kernel
theorem d_MO_catcher_40 : decode b_MO_catcher 40 = .ok (.iload_n 2, 1) := by decide +kernel
theorem d_MO_catcher_41 : decode b_MO_catcher 41 = .ok (.ireturn, 1) := by decide +kernel
theorem d_MO_catcher_42 : decode b_MO_catcher 42 = .ok (.iinc 2 1, 3) := by decide +kernel
theorem d_MO_catcher_45 : decode b_MO_catcher 45 = .ok (.goto (-43), 3) := by decide +kernel
theorem d_MO_catcher_48 : decode b_MO_catcher 48 = .ok (.iconst (-1), 1) := by decide +kernel
theorem d_MO_catcher_49 : decode b_MO_catcher 49 = .ok (.ireturn, 1) := by decide +kernel
theorem d_MO_closeLast_0 : decode b_MO_closeLast 0 = .ok (.aload_n 0, 1) := by decide +kernel
theorem d_MO_closeLast_1 : decode b_MO_closeLast 1 = .ok (.getfield 92, 3) := by decide +kernel
theorem d_MO_closeLast_4 : decode b_MO_closeLast 4 = .ok (.ifCond .eq 4, 3) := by decide +kernel
theorem d_MO_closeLast_7 : decode b_MO_closeLast 7 = .ok (.return_, 1) := by decide +kernel
theorem d_MO_closeLast_8 : decode b_MO_closeLast 8 = .ok (.aload_n 0, 1) := by decide +kernel
theorem d_MO_closeLast_9 : decode b_MO_closeLast 9 = .ok (.iload_n 2, 1) := by decide +kernel
theorem d_MO_closeLast_10 : decode b_MO_closeLast 10 = .ok (.iload_n 3, 1) := by decide +kernel
theorem d_MO_closeLast_11 : decode b_MO_closeLast 11 = .ok (.invokevirtual 101, 3) := by decide +kernel
theorem d_MO_closeLast_14 : decode b_MO_closeLast 14 = .ok (.iload_n 2, 1) := by decide +kernel
theorem d_MO_closeLast_15 : decode b_MO_closeLast 15 = .ok (.ifCond .ne 12, 3) := by decide +kernel
theorem d_MO_closeLast_18 : decode b_MO_closeLast 18 = .ok (.aload_n 0, 1) := by decide +kernel
theorem d_MO_closeLast_19 : decode b_MO_closeLast 19 = .ok (.aload_n 0, 1) := by decide +kernel
theorem d_MO_closeLast_20 : decode b_MO_closeLast 20 = .ok (.iload_n 1, 1) := by decide +kernel
theorem d_MO_closeLast_21 : decode b_MO_closeLast 21 = .ok (.invokevirtual 146, 3) := by decide +kernel
theorem d_MO_closeLast_24 : decode b_MO_closeLast 24 = .ok (.putfield 86, 3) := by decide +kernel
theorem d_MO_closeLast_27 : decode b_MO_closeLast 27 = .ok (.return_, 1) := by decide +kernel
theorem d_MO_closeRun_0 : decode b_MO_closeRun 0 = .ok (.aload_n 0, 1) := by decide +kernel
theorem d_MO_closeRun_1 : decode b_MO_closeRun 1 = .ok (.getfield 92, 3) := by decide +kernel
theorem d_MO_closeRun_4 : decode b_MO_closeRun 4 = .ok (.iconst 3, 1) := by decide +kernel
theorem d_MO_closeRun_5 : decode b_MO_closeRun 5 = .ok (.if_icmp .ne 10, 3) := by decide +kernel
theorem d_MO_closeRun_8 : decode b_MO_closeRun 8 = .ok (.aload_n 0, 1) := by decide +kernel
theorem d_MO_closeRun_9 : decode b_MO_closeRun 9 = .ok (.getfield 95, 3) := by decide +kernel
theorem d_MO_closeRun_12 : decode b_MO_closeRun 12 = .ok (.goto 7, 3) := by decide +kernel
theorem d_MO_closeRun_15 : decode b_MO_closeRun 15 = .ok (.aload_n 0, 1) := by decide +kernel
theorem d_MO_closeRun_16 : decode b_MO_closeRun 16 = .ok (.getfield 121, 3) := by decide +kernel
theorem d_MO_closeRun_19 : decode b_MO_closeRun 19 = .ok (.istore_n 3, 1) := by decide +kernel
theorem d_MO_closeRun_20 : decode b_MO_closeRun 20 = .ok (.iconst 0, 1) := by decide +kernel
theorem d_MO_closeRun_21 : decode b_MO_closeRun 21 = .ok (.istore 4, 2) := by decide +kernel
theorem d_MO_closeRun_23 : decode b_MO_closeRun 23 = .ok (.aload_n 0, 1) := by decide +kernel
theorem d_MO_closeRun_24 : decode b_MO_closeRun 24 = .ok (.dup, 1) := by decide +kernel
theorem d_MO_closeRun_25 : decode b_MO_closeRun 25 = .ok (.getfield 111, 3) := by decide +kernel
theorem d_MO_closeRun_28 : decode b_MO_closeRun 28 = .ok (.iconst 1, 1) := by decide +kernel
theorem d_MO_closeRun_29 : decode b_MO_closeRun 29 = .ok (.isub, 1) := by decide +kernel
theorem d_MO_closeRun_30 : decode b_MO_closeRun 30 = .ok (.putfield 111, 3) := by decide +kernel
theorem d_MO_closeRun_33 : decode b_MO_closeRun 33 = .ok (.iconst 0, 1) := by decide +kernel
theorem d_MO_closeRun_34 : decode b_MO_closeRun 34 = .ok (.istore 5, 2) := by decide +kernel
theorem d_MO_closeRun_36 : decode b_MO_closeRun 36 = .ok (.iload 5, 2) := by decide +kernel
theorem d_MO_closeRun_38 : decode b_MO_closeRun 38 = .ok (.iconst 3, 1) := by decide +kernel
theorem d_MO_closeRun_39 : decode b_MO_closeRun 39 = .ok (.if_icmp .ge 53, 3) := by decide +kernel
theorem d_MO_closeRun_42 : decode b_MO_closeRun 42 = .ok (.aload_n 0, 1) := by decide +kernel
theorem d_MO_closeRun_43 : decode b_MO_closeRun 43 = .ok (.getfield 38, 3) := by decide +kernel
theorem d_MO_closeRun_46 : decode b_MO_closeRun 46 = .ok (.iload 5, 2) := by decide +kernel
theorem d_MO_closeRun_48 : decode b_MO_closeRun 48 = .ok (.dup2, 1) := by decide +kernel
theorem d_MO_closeRun_49 : decode b_MO_closeRun 49 = .ok (.iaload, 1) := by decide +kernel
theorem d_MO_closeRun_50 : decode b_MO_closeRun 50 = .ok (.aload_n 0, 1) := by decide +kernel
theorem d_MO_closeRun_51 : decode b_MO_closeRun 51 = .ok (.getfield 35, 3) := by decide +kernel
theorem d_MO_closeRun_54 : decode b_MO_closeRun 54 = .ok (.iconst 3, 1) := by decide +kernel
theorem d_MO_closeRun_55 : decode b_MO_closeRun 55 = .ok (.aload_n 0, 1) := by decide +kernel
theorem d_MO_closeRun_56 : decode b_MO_closeRun 56 = .ok (.getfield 111, 3) := by decide +kernel
theorem d_MO_closeRun_59 : decode b_MO_closeRun 59 = .ok (.imul, 1) := by decide +kernel
theorem d_MO_closeRun_60 : decode b_MO_closeRun 60 = .ok (.iload 5, 2) := by decide +kernel
theorem d_MO_closeRun_62 : decode b_MO_closeRun 62 = .ok (.iadd, 1) := by decide +kernel
theorem d_MO_closeRun_63 : decode b_MO_closeRun 63 = .ok (.iaload, 1) := by decide +kernel
theorem d_MO_closeRun_64 : decode b_MO_closeRun 64 = .ok (.isub, 1) := by decide +kernel
theorem d_MO_closeRun_65 : decode b_MO_closeRun 65 = .ok (.iastore, 1) := by decide +kernel
theorem d_MO_closeRun_66 : decode b_MO_closeRun 66 = .ok (.aload_n 0, 1) := by decide +kernel
theorem d_MO_closeRun_67 : decode b_MO_closeRun 67 = .ok (.getfield 35, 3) := by decide +kernel
theorem d_MO_closeRun_70 : decode b_MO_closeRun 70 = .ok (.iconst 3, 1) := by decide +kernel
theorem d_MO_closeRun_71 : decode b_MO_closeRun 71 = .ok (.aload_n 0, 1) := by decide +kernel
theorem d_MO_closeRun_72 : decode b_MO_closeRun 72 = .ok (.getfield 111, 3) := by decide +kernel
theorem d_MO_closeRun_75 : decode b_MO_closeRun 75 = .ok (.imul, 1) := by decide +kernel
theorem d_MO_closeRun_76 : decode b_MO_closeRun 76 = .ok (.iload 5, 2) := by decide +kernel
theorem d_MO_closeRun_78 : decode b_MO_closeRun 78 = .ok (.iadd, 1) := by decide +kernel
theorem d_MO_closeRun_79 : decode b_MO_closeRun 79 = .ok (.iaload, 1) := by decide +kernel
theorem d_MO_closeRun_80 : decode b_MO_closeRun 80 = .ok (.ifCond .le 6, 3) := by decide +kernel
theorem d_MO_closeRun_83 : decode b_MO_closeRun 83 = .ok (.iconst 1, 1) := by decide +kernel
theorem d_MO_closeRun_84 : decode b_MO_closeRun 84 = .ok (.istore 4, 2) := by decide +kernel
theorem d_MO_closeRun_86 : decode b_MO_closeRun 86 = .ok (.iinc 5 1, 3) := by decide +kernel
theorem d_MO_closeRun_89 : decode b_MO_closeRun 89 = .ok (.goto (-53), 3) := by decide +kernel
theorem d_MO_closeRun_92 : decode b_MO_closeRun 92 = .ok (.iload 4, 2) := by decide +kernel
theorem d_MO_closeRun_94 : decode b_MO_closeRun 94 = .ok (.ifCond .eq 24, 3) := by decide +kernel
theorem d_MO_closeRun_97 : decode b_MO_closeRun 97 = .ok (.aload_n 0, 1) := by decide +kernel
theorem d_MO_closeRun_98 : decode b_MO_closeRun 98 = .ok (.iconst 4, 1) := by decide +kernel
theorem d_MO_closeRun_99 : decode b_MO_closeRun 99 = .ok (.aload_n 0, 1) := by decide +kernel
theorem d_MO_closeRun_100 : decode b_MO_closeRun 100 = .ok (.getfield 92, 3) := by decide +kernel
theorem d_MO_closeRun_103 : decode b_MO_closeRun 103 = .ok (.iconst 4, 1) := by decide +kernel
theorem d_MO_closeRun_104 : decode b_MO_closeRun 104 = .ok (.if_icmp .ne 10, 3) := by decide +kernel
theorem d_MO_closeRun_107 : decode b_MO_closeRun 107 = .ok (.aload_n 0, 1) := by decide +kernel
theorem d_MO_closeRun_108 : decode b_MO_closeRun 108 = .ok (.getfield 95, 3) := by decide +kernel
theorem d_MO_closeRun_111 : decode b_MO_closeRun 111 = .ok (.goto 4, 3) := by decide +kernel
theorem d_MO_closeRun_114 : decode b_MO_closeRun 114 = .ok (.iconst 0, 1) := by decide +kernel
theorem d_MO_closeRun_115 : decode b_MO_closeRun 115 = .ok (.invokevirtual 124, 3) := by decide +kernel
theorem d_MO_closeRun_118 : decode b_MO_closeRun 118 = .ok (.aload_n 0, 1) := by decide +kernel
theorem d_MO_closeRun_119 : decode b_MO_closeRun 119 = .ok (.getfield 92, 3) := by decide +kernel
theorem d_MO_closeRun_122 : decode b_MO_closeRun 122 = .ok (.iconst 4, 1) := by decide +kernel
theorem d_MO_closeRun_123 : decode b_MO_closeRun 123 = .ok (.if_icmp .ne 9, 3) := by decide +kernel
theorem d_MO_closeRun_126 : decode b_MO_closeRun 126 = .ok (.aload_n 0, 1) := by decide +kernel
theorem d_MO_closeRun_127 : decode b_MO_closeRun 127 = .ok (.iload_n 2, 1) := by decide +kernel
theorem d_MO_closeRun_128 : decode b_MO_closeRun 128 = .ok (.putfield 121, 3) := by decide +kernel
theorem d_MO_closeRun_131 : decode b_MO_closeRun 131 = .ok (.return_, 1) := by decide +kernel
theorem d_MO_closeRun_132 : decode b_MO_closeRun 132 = .ok (.aload_n 0, 1) := by decide +kernel
theorem d_MO_closeRun_133 : decode b_MO_closeRun 133 = .ok (.iconst 0, 1) := by decide +kernel
theorem d_MO_closeRun_134 : decode b_MO_closeRun 134 = .ok (.putfield 92, 3) := by decide +kernel
theorem d_MO_closeRun_137 : decode b_MO_closeRun 137 = .ok (.aload_n 0, 1) := by decide +kernel
theorem d_MO_closeRun_138 : decode b_MO_closeRun 138 = .ok (.iload_n 3, 1) := by decide +kernel
theorem d_MO_closeRun_139 : decode b_MO_closeRun 139 = .ok (.putfield 121, 3) := by decide +kernel
theorem d_MO_closeRun_142 : decode b_MO_closeRun 142 = .ok (.aload_n 0, 1) := by decide +kernel
theorem d_MO_closeRun_143 : decode b_MO_closeRun 143 = .ok (.iload_n 1, 1) := by decide +kernel
theorem d_MO_closeRun_144 : decode b_MO_closeRun 144 = .ok (.putfield 86, 3) := by decide +kernel
theorem d_MO_closeRun_147 : decode b_MO_closeRun 147 = .ok (.return_, 1) := by decide +kernel
theorem d_MO_run_0 : decode b_MO_run 0 = .ok (.iload_n 1, 1) := by decide +kernel
theorem d_MO_run_1 : decode b_MO_run 1 = .ok (.iconst 0, 1) := by decide +kernel
theorem d_MO_run_2 : decode b_MO_run 2 = .ok (.iconst 3, 1) := by decide +kernel
theorem d_MO_run_3 : decode b_MO_run 3 = .ok (.invokestatic 50, 3) := by decide +kernel
theorem d_MO_run_6 : decode b_MO_run 6 = .ok (.ifCond .ne 5, 3) := by decide +kernel
theorem d_MO_run_9 : decode b_MO_run 9 = .ok (.iconst (-1), 1) := by decide +kernel
theorem d_MO_run_10 : decode b_MO_run 10 = .ok (.ireturn, 1) := by decide +kernel
theorem d_MO_run_11 : decode b_MO_run 11 = .ok (.aload_n 0, 1) := by decide +kernel
theorem d_MO_run_12 : decode b_MO_run 12 = .ok (.iconst (-1), 1) := by decide +kernel
theorem d_MO_run_13 : decode b_MO_run 13 = .ok (.putfield 19, 3) := by decide +kernel
theorem d_MO_run_16 : decode b_MO_run 16 = .ok (.iconst 0, 1) := by decide +kernel
theorem d_MO_run_17 : decode b_MO_run 17 = .ok (.istore 4, 2) := by decide +kernel
theorem d_MO_run_19 : decode b_MO_run 19 = .ok (.iload 4, 2) := by decide +kernel
theorem d_MO_run_21 : decode b_MO_run 21 = .ok (.iconst 4, 1) := by decide +kernel
theorem d_MO_run_22 : decode b_MO_run 22 = .ok (.if_icmp .ge 37, 3) := by decide +kernel
theorem d_MO_run_25 : decode b_MO_run 25 = .ok (.aload_n 0, 1) := by decide +kernel
theorem d_MO_run_26 : decode b_MO_run 26 = .ok (.getfield 16, 3) := by decide +kernel
theorem d_MO_run_29 : decode b_MO_run 29 = .ok (.iload 4, 2) := by decide +kernel
theorem d_MO_run_31 : decode b_MO_run 31 = .ok (.iaload, 1) := by decide +kernel
theorem d_MO_run_32 : decode b_MO_run 32 = .ok (.ifCond .gt 9, 3) := by decide +kernel
theorem d_MO_run_35 : decode b_MO_run 35 = .ok (.iload 4, 2) := by decide +kernel
theorem d_MO_run_37 : decode b_MO_run 37 = .ok (.iload_n 1, 1) := by decide +kernel
theorem d_MO_run_38 : decode b_MO_run 38 = .ok (.if_icmp .ne 15, 3) := by decide +kernel
theorem d_MO_run_41 : decode b_MO_run 41 = .ok (.aload_n 0, 1) := by decide +kernel
theorem d_MO_run_42 : decode b_MO_run 42 = .ok (.iload 4, 2) := by decide +kernel
theorem d_MO_run_44 : decode b_MO_run 44 = .ok (.invokevirtual 76, 3) := by decide +kernel
theorem d_MO_run_47 : decode b_MO_run 47 = .ok (.ifCond .ne 6, 3) := by decide +kernel
theorem d_MO_run_50 : decode b_MO_run 50 = .ok (.bipush (-3), 2) := by decide +kernel
theorem d_MO_run_52 : decode b_MO_run 52 = .ok (.ireturn, 1) := by decide +kernel
theorem d_MO_run_53 : decode b_MO_run 53 = .ok (.iinc 4 1, 3) := by decide +kernel
theorem d_MO_run_56 : decode b_MO_run 56 = .ok (.goto (-37), 3) := by decide +kernel
theorem d_MO_run_59 : decode b_MO_run 59 = .ok (.aload_n 0, 1) := by decide +kernel
theorem d_MO_run_60 : decode b_MO_run 60 = .ok (.iconst 0, 1) := by decide +kernel
theorem d_MO_run_61 : decode b_MO_run 61 = .ok (.putfield 58, 3) := by decide +kernel
theorem d_MO_run_64 : decode b_MO_run 64 = .ok (.aload_n 0, 1) := by decide +kernel
theorem d_MO_run_65 : decode b_MO_run 65 = .ok (.iconst 0, 1) := by decide +kernel
theorem d_MO_run_66 : decode b_MO_run 66 = .ok (.putfield 111, 3) := by decide +kernel
theorem d_MO_run_69 : decode b_MO_run 69 = .ok (.aload_n 0, 1) := by decide +kernel
theorem d_MO_run_70 : decode b_MO_run 70 = .ok (.iconst 0, 1) := by decide +kernel
theorem d_MO_run_71 : decode b_MO_run 71 = .ok (.putfield 89, 3) := by decide +kernel
theorem d_MO_run_74 : decode b_MO_run 74 = .ok (.aload_n 0, 1) := by decide +kernel
theorem d_MO_run_75 : decode b_MO_run 75 = .ok (.iconst 0, 1) := by decide +kernel
theorem d_MO_run_76 : decode b_MO_run 76 = .ok (.putfield 114, 3) := by decide +kernel
theorem d_MO_run_79 : decode b_MO_run 79 = .ok (.aload_n 0, 1) := by decide +kernel
theorem d_MO_run_80 : decode b_MO_run 80 = .ok (.iconst 0, 1) := by decide +kernel
theorem d_MO_run_81 : decode b_MO_run 81 = .ok (.putfield 104, 3) := by decide +kernel
theorem d_MO_run_84 : decode b_MO_run 84 = .ok (.aload_n 0, 1) := by decide +kernel
theorem d_MO_run_85 : decode b_MO_run 85 = .ok (.iconst 0, 1) := by decide +kernel
theorem d_MO_run_86 : decode b_MO_run 86 = .ok (.putfield 164, 3) := by decide +kernel
theorem d_MO_run_89 : decode b_MO_run 89 = .ok (.aload_n 0, 1) := by decide +kernel
theorem d_MO_run_90 : decode b_MO_run 90 = .ok (.iconst 0, 1) := by decide +kernel
theorem d_MO_run_91 : decode b_MO_run 91 = .ok (.putfield 92, 3) := by decide +kernel
theorem d_MO_run_94 : decode b_MO_run 94 = .ok (.aload_n 0, 1) := by decide +kernel
theorem d_MO_run_95 : decode b_MO_run 95 = .ok (.iload_n 2, 1) := by decide +kernel
theorem d_MO_run_96 : decode b_MO_run 96 = .ok (.putfield 121, 3) := by decide +kernel
theorem d_MO_run_99 : decode b_MO_run 99 = .ok (.iconst 0, 1) := by decide +kernel
theorem d_MO_run_100 : decode b_MO_run 100 = .ok (.istore 4, 2) := by decide +kernel
theorem d_MO_run_102 : decode b_MO_run 102 = .ok (.iload 4, 2) := by decide +kernel
theorem d_MO_run_104 : decode b_MO_run 104 = .ok (.iconst 3, 1) := by decide +kernel
theorem d_MO_run_105 : decode b_MO_run 105 = .ok (.if_icmp .ge 17, 3) := by decide +kernel
theorem d_MO_run_108 : decode b_MO_run 108 = .ok (.aload_n 0, 1) := by decide +kernel
theorem d_MO_run_109 : decode b_MO_run 109 = .ok (.getfield 38, 3) := by decide +kernel
theorem d_MO_run_112 : decode b_MO_run 112 = .ok (.iload 4, 2) := by decide +kernel
theorem d_MO_run_114 : decode b_MO_run 114 = .ok (.iconst 0, 1) := by decide +kernel
theorem d_MO_run_115 : decode b_MO_run 115 = .ok (.iastore, 1) := by decide +kernel
theorem d_MO_run_116 : decode b_MO_run 116 = .ok (.iinc 4 1, 3) := by decide +kernel
theorem d_MO_run_119 : decode b_MO_run 119 = .ok (.goto (-17), 3) := by decide +kernel
theorem d_MO_run_122 : decode b_MO_run 122 = .ok (.aload_n 0, 1) := by decide +kernel
theorem d_MO_run_123 : decode b_MO_run 123 = .ok (.iload_n 1, 1) := by decide +kernel
theorem d_MO_run_124 : decode b_MO_run 124 = .ok (.iload_n 2, 1) := by decide +kernel
theorem d_MO_run_125 : decode b_MO_run 125 = .ok (.invokevirtual 140, 3) := by decide +kernel
theorem d_MO_run_128 : decode b_MO_run 128 = .ok (.aload_n 0, 1) := by decide +kernel
theorem d_MO_run_129 : decode b_MO_run 129 = .ok (.getfield 58, 3) := by decide +kernel
theorem d_MO_run_132 : decode b_MO_run 132 = .ok (.ifCond .le 50, 3) := by decide +kernel
theorem d_MO_run_135 : decode b_MO_run 135 = .ok (.aload_n 0, 1) := by decide +kernel
theorem d_MO_run_136 : decode b_MO_run 136 = .ok (.getfield 92, 3) := by decide +kernel
theorem d_MO_run_139 : decode b_MO_run 139 = .ok (.ifCond .ne 17, 3) := by decide +kernel
theorem d_MO_run_142 : decode b_MO_run 142 = .ok (.aload_n 0, 1) := by decide +kernel
theorem d_MO_run_143 : decode b_MO_run 143 = .ok (.getfield 7, 3) := by decide +kernel
theorem d_MO_run_146 : decode b_MO_run 146 = .ok (.aload_n 0, 1) := by decide +kernel
theorem d_MO_run_147 : decode b_MO_run 147 = .ok (.getfield 86, 3) := by decide +kernel
theorem d_MO_run_150 : decode b_MO_run 150 = .ok (.iaload, 1) := by decide +kernel
theorem d_MO_run_151 : decode b_MO_run 151 = .ok (.bipush 18, 2) := by decide +kernel
theorem d_MO_run_153 : decode b_MO_run 153 = .ok (.if_icmp .ne 10, 3) := by decide +kernel
theorem d_MO_run_156 : decode b_MO_run 156 = .ok (.aload_n 0, 1) := by decide +kernel
theorem d_MO_run_157 : decode b_MO_run 157 = .ok (.invokevirtual 167, 3) := by decide +kernel
theorem d_MO_run_160 : decode b_MO_run 160 = .ok (.goto (-32), 3) := by decide +kernel
theorem d_MO_run_163 : decode b_MO_run 163 = .ok (.aload_n 0, 1) := by decide +kernel
theorem d_MO_run_164 : decode b_MO_run 164 = .ok (.getfield 114, 3) := by decide +kernel
theorem d_MO_run_167 : decode b_MO_run 167 = .ok (.sipush 300, 3) := by decide +kernel
theorem d_MO_run_170 : decode b_MO_run 170 = .ok (.if_icmp .ne 5, 3) := by decide +kernel
theorem d_MO_run_173 : decode b_MO_run 173 = .ok (.iconst 2, 1) := by decide +kernel
theorem d_MO_run_174 : decode b_MO_run 174 = .ok (.ireturn, 1) := by decide +kernel
theorem d_MO_run_175 : decode b_MO_run 175 = .ok (.aload_n 0, 1) := by decide +kernel
theorem d_MO_run_176 : decode b_MO_run 176 = .ok (.invokevirtual 170, 3) := by decide +kernel
theorem d_MO_run_179 : decode b_MO_run 179 = .ok (.goto (-51), 3) := by decide +kernel
theorem d_MO_run_182 : decode b_MO_run 182 = .ok (.aload_n 0, 1) := by decide +kernel
theorem d_MO_run_183 : decode b_MO_run 183 = .ok (.getfield 92, 3) := by decide +kernel
theorem d_MO_run_186 : decode b_MO_run 186 = .ok (.iconst 4, 1) := by decide +kernel
theorem d_MO_run_187 : decode b_MO_run 187 = .ok (.if_icmp .ne 13, 3) := by decide +kernel
theorem d_MO_run_190 : decode b_MO_run 190 = .ok (.aload_n 0, 1) := by decide +kernel
theorem d_MO_run_191 : decode b_MO_run 191 = .ok (.aload_n 0, 1) := by decide +kernel
theorem d_MO_run_192 : decode b_MO_run 192 = .ok (.getfield 95, 3) := by decide +kernel
theorem d_MO_run_195 : decode b_MO_run 195 = .ok (.putfield 164, 3) := by decide +kernel
theorem d_MO_run_198 : decode b_MO_run 198 = .ok (.iconst 1, 1) := by decide +kernel
theorem d_MO_run_199 : decode b_MO_run 199 = .ok (.ireturn, 1) := by decide +kernel
theorem d_MO_run_200 : decode b_MO_run 200 = .ok (.aload_n 0, 1) := by decide +kernel
theorem d_MO_run_201 : decode b_MO_run 201 = .ok (.aload_n 0, 1) := by decide +kernel
theorem d_MO_run_202 : decode b_MO_run 202 = .ok (.getfield 121, 3) := by decide +kernel
theorem d_MO_run_205 : decode b_MO_run 205 = .ok (.putfield 173, 3) := by decide +kernel
theorem d_MO_run_208 : decode b_MO_run 208 = .ok (.iconst 0, 1) := by decide +kernel
theorem d_MO_run_209 : decode b_MO_run 209 = .ok (.ireturn, 1) := by decide +kernel
theorem d_MO_value_0 : decode b_MO_value 0 = .ok (.aload_n 0, 1) := by decide +kernel
theorem d_MO_value_1 : decode b_MO_value 1 = .ok (.getfield 173, 3) := by decide +kernel
theorem d_MO_value_4 : decode b_MO_value 4 = .ok (.ireturn, 1) := by decide +kernel
theorem d_MO_fault_0 : decode b_MO_fault 0 = .ok (.iload_n 1, 1) := by decide +kernel
theorem d_MO_fault_1 : decode b_MO_fault 1 = .ok (.ifCond .ge 7, 3) := by decide +kernel
theorem d_MO_fault_4 : decode b_MO_fault 4 = .ok (.iconst 0, 1) := by decide +kernel
theorem d_MO_fault_5 : decode b_MO_fault 5 = .ok (.goto 7, 3) := by decide +kernel
theorem d_MO_fault_8 : decode b_MO_fault 8 = .ok (.aload_n 0, 1) := by decide +kernel
theorem d_MO_fault_9 : decode b_MO_fault 9 = .ok (.getfield 164, 3) := by decide +kernel
theorem d_MO_fault_12 : decode b_MO_fault 12 = .ok (.istore_n 2, 1) := by decide +kernel
theorem d_MO_fault_13 : decode b_MO_fault 13 = .ok (.iconst 0, 1) := by decide +kernel
theorem d_MO_fault_14 : decode b_MO_fault 14 = .ok (.istore_n 3, 1) := by decide +kernel
theorem d_MO_fault_15 : decode b_MO_fault 15 = .ok (.iload_n 3, 1) := by decide +kernel
theorem d_MO_fault_16 : decode b_MO_fault 16 = .ok (.iload_n 1, 1) := by decide +kernel
theorem d_MO_fault_17 : decode b_MO_fault 17 = .ok (.if_icmp .ge 20, 3) := by decide +kernel
theorem d_MO_fault_20 : decode b_MO_fault 20 = .ok (.iload_n 2, 1) := by decide +kernel
theorem d_MO_fault_21 : decode b_MO_fault 21 = .ok (.ifCond .le 16, 3) := by decide +kernel
theorem d_MO_fault_24 : decode b_MO_fault 24 = .ok (.aload_n 0, 1) := by decide +kernel
theorem d_MO_fault_25 : decode b_MO_fault 25 = .ok (.getfield 44, 3) := by decide +kernel
theorem d_MO_fault_28 : decode b_MO_fault 28 = .ok (.iload_n 2, 1) := by decide +kernel
theorem d_MO_fault_29 : decode b_MO_fault 29 = .ok (.iaload, 1) := by decide +kernel
theorem d_MO_fault_30 : decode b_MO_fault 30 = .ok (.istore_n 2, 1) := by decide +kernel
theorem d_MO_fault_31 : decode b_MO_fault 31 = .ok (.iinc 3 1, 3) := by decide +kernel
theorem d_MO_fault_34 : decode b_MO_fault 34 = .ok (.goto (-19), 3) := by decide +kernel
theorem d_MO_fault_37 : decode b_MO_fault 37 = .ok (.iload_n 2, 1) := by decide +kernel
theorem d_MO_fault_38 : decode b_MO_fault 38 = .ok (.ifCond .le 12, 3) := by decide +kernel
theorem d_MO_fault_41 : decode b_MO_fault 41 = .ok (.aload_n 0, 1) := by decide +kernel
theorem d_MO_fault_42 : decode b_MO_fault 42 = .ok (.getfield 41, 3) := by decide +kernel
theorem d_MO_fault_45 : decode b_MO_fault 45 = .ok (.iload_n 2, 1) := by decide +kernel
theorem d_MO_fault_46 : decode b_MO_fault 46 = .ok (.iaload, 1) := by decide +kernel
theorem d_MO_fault_47 : decode b_MO_fault 47 = .ok (.goto 4, 3) := by decide +kernel
theorem d_MO_fault_50 : decode b_MO_fault 50 = .ok (.iconst (-1), 1) := by decide +kernel
theorem d_MO_fault_51 : decode b_MO_fault 51 = .ok (.ireturn, 1) := by decide +kernel
theorem d_MO_steps_0 : decode b_MO_steps 0 = .ok (.aload_n 0, 1) := by decide +kernel
theorem d_MO_steps_1 : decode b_MO_steps 1 = .ok (.getfield 114, 3) := by decide +kernel
theorem d_MO_steps_4 : decode b_MO_steps 4 = .ok (.ireturn, 1) := by decide +kernel
theorem d_MO_events_0 : decode b_MO_events 0 = .ok (.aload_n 0, 1) := by decide +kernel
theorem d_MO_events_1 : decode b_MO_events 1 = .ok (.getfield 143, 3) := by decide +kernel
theorem d_MO_events_4 : decode b_MO_events 4 = .ok (.ireturn, 1) := by decide +kernel
theorem d_MO_event_0 : decode b_MO_event 0 = .ok (.iload_n 1, 1) := by decide +kernel
theorem d_MO_event_1 : decode b_MO_event 1 = .ok (.iconst 0, 1) := by decide +kernel
theorem d_MO_event_2 : decode b_MO_event 2 = .ok (.bipush 31, 2) := by decide +kernel
theorem d_MO_event_4 : decode b_MO_event 4 = .ok (.invokestatic 50, 3) := by decide +kernel
theorem d_MO_event_7 : decode b_MO_event 7 = .ok (.ifCond .eq 20, 3) := by decide +kernel
theorem d_MO_event_10 : decode b_MO_event 10 = .ok (.iload_n 1, 1) := by decide +kernel
theorem d_MO_event_11 : decode b_MO_event 11 = .ok (.aload_n 0, 1) := by decide +kernel
theorem d_MO_event_12 : decode b_MO_event 12 = .ok (.getfield 143, 3) := by decide +kernel
theorem d_MO_event_15 : decode b_MO_event 15 = .ok (.if_icmp .ge 12, 3) := by decide +kernel
theorem d_MO_event_18 : decode b_MO_event 18 = .ok (.aload_n 0, 1) := by decide +kernel
theorem d_MO_event_19 : decode b_MO_event 19 = .ok (.getfield 47, 3) := by decide +kernel
theorem d_MO_event_22 : decode b_MO_event 22 = .ok (.iload_n 1, 1) := by decide +kernel
theorem d_MO_event_23 : decode b_MO_event 23 = .ok (.iaload, 1) := by decide +kernel
theorem d_MO_event_24 : decode b_MO_event 24 = .ok (.goto 4, 3) := by decide +kernel
theorem d_MO_event_27 : decode b_MO_event 27 = .ok (.iconst (-1), 1) := by decide +kernel
theorem d_MO_event_28 : decode b_MO_event 28 = .ok (.ireturn, 1) := by decide +kernel
theorem d_MO_most_0 : decode b_MO_most 0 = .ok (.aload_n 0, 1) := by decide +kernel
theorem d_MO_most_1 : decode b_MO_most 1 = .ok (.getfield 104, 3) := by decide +kernel
theorem d_MO_most_4 : decode b_MO_most 4 = .ok (.ireturn, 1) := by decide +kernel
