theorem dX0_init_0 : decode cX0_init 0 = .ok (.aload_n 0, 1) := by decide +kernel
theorem dX0_init_1 : decode cX0_init 1 = .ok (.invokespecial 3, 3) := by decide +kernel
theorem dX0_init_4 : decode cX0_init 4 = .ok (.aload_n 0, 1) := by decide +kernel
theorem dX0_init_5 : decode cX0_init 5 = .ok (.bipush 50, 2) := by decide +kernel
theorem dX0_init_7 : decode cX0_init 7 = .ok (.newarray .int, 2) := by decide +kernel
theorem dX0_init_9 : decode cX0_init 9 = .ok (.putfield 11, 3) := by decide +kernel
theorem dX0_init_12 : decode cX0_init 12 = .ok (.aload_n 0, 1) := by decide +kernel
theorem dX0_init_13 : decode cX0_init 13 = .ok (.bipush 24, 2) := by decide +kernel
theorem dX0_init_15 : decode cX0_init 15 = .ok (.newarray .int, 2) := by decide +kernel
theorem dX0_init_17 : decode cX0_init 17 = .ok (.putfield 15, 3) := by decide +kernel
theorem dX0_init_20 : decode cX0_init 20 = .ok (.return_, 1) := by decide +kernel
theorem dX0_isBody_0 : decode cX0_isBody 0 = .ok (.iload_n 1, 1) := by decide +kernel
theorem dX0_isBody_1 : decode cX0_isBody 1 = .ok (.ifCond .lt 21, 3) := by decide +kernel
theorem dX0_isBody_4 : decode cX0_isBody 4 = .ok (.iload_n 1, 1) := by decide +kernel
theorem dX0_isBody_5 : decode cX0_isBody 5 = .ok (.aload_n 0, 1) := by decide +kernel
theorem dX0_isBody_6 : decode cX0_isBody 6 = .ok (.getfield 18, 3) := by decide +kernel
theorem dX0_isBody_9 : decode cX0_isBody 9 = .ok (.if_icmp .ge 13, 3) := by decide +kernel
theorem dX0_isBody_12 : decode cX0_isBody 12 = .ok (.iload_n 1, 1) := by decide +kernel
theorem dX0_isBody_13 : decode cX0_isBody 13 = .ok (.bipush 50, 2) := by decide +kernel
theorem dX0_isBody_15 : decode cX0_isBody 15 = .ok (.if_icmp .ge 7, 3) := by decide +kernel
theorem dX0_isBody_18 : decode cX0_isBody 18 = .ok (.iconst 1, 1) := by decide +kernel
theorem dX0_isBody_19 : decode cX0_isBody 19 = .ok (.goto 4, 3) := by decide +kernel
theorem dX0_isBody_22 : decode cX0_isBody 22 = .ok (.iconst 0, 1) := by decide +kernel
theorem dX0_isBody_23 : decode cX0_isBody 23 = .ok (.ireturn, 1) := by decide +kernel
theorem dX0_add_0 : decode cX0_add 0 = .ok (.aload_n 0, 1) := by decide +kernel
theorem dX0_add_1 : decode cX0_add 1 = .ok (.getfield 18, 3) := by decide +kernel
theorem dX0_add_4 : decode cX0_add 4 = .ok (.bipush 50, 2) := by decide +kernel
theorem dX0_add_6 : decode cX0_add 6 = .ok (.if_icmp .lt 6, 3) := by decide +kernel
theorem dX0_add_9 : decode cX0_add 9 = .ok (.bipush (-3), 2) := by decide +kernel
theorem dX0_add_11 : decode cX0_add 11 = .ok (.ireturn, 1) := by decide +kernel
theorem dX0_add_12 : decode cX0_add 12 = .ok (.aload_n 0, 1) := by decide +kernel
theorem dX0_add_13 : decode cX0_add 13 = .ok (.getfield 11, 3) := by decide +kernel
theorem dX0_add_16 : decode cX0_add 16 = .ok (.aload_n 0, 1) := by decide +kernel
theorem dX0_add_17 : decode cX0_add 17 = .ok (.getfield 18, 3) := by decide +kernel
theorem dX0_add_20 : decode cX0_add 20 = .ok (.iload_n 1, 1) := by decide +kernel
theorem dX0_add_21 : decode cX0_add 21 = .ok (.iastore, 1) := by decide +kernel
theorem dX0_add_22 : decode cX0_add 22 = .ok (.aload_n 0, 1) := by decide +kernel
theorem dX0_add_23 : decode cX0_add 23 = .ok (.dup, 1) := by decide +kernel
theorem dX0_add_24 : decode cX0_add 24 = .ok (.getfield 18, 3) := by decide +kernel
theorem dX0_add_27 : decode cX0_add 27 = .ok (.dup_x1, 1) := by decide +kernel
theorem dX0_add_28 : decode cX0_add 28 = .ok (.iconst 1, 1) := by decide +kernel
theorem dX0_add_29 : decode cX0_add 29 = .ok (.iadd, 1) := by decide +kernel
theorem dX0_add_30 : decode cX0_add 30 = .ok (.putfield 18, 3) := by decide +kernel
theorem dX0_add_33 : decode cX0_add 33 = .ok (.ireturn, 1) := by decide +kernel
theorem dX0_traced_0 : decode cX0_traced 0 = .ok (.aload_n 0, 1) := by decide +kernel
theorem dX0_traced_1 : decode cX0_traced 1 = .ok (.getfield 22, 3) := by decide +kernel
theorem dX0_traced_4 : decode cX0_traced 4 = .ok (.bipush 24, 2) := by decide +kernel
theorem dX0_traced_6 : decode cX0_traced 6 = .ok (.invokestatic 25, 3) := by decide +kernel
theorem dX0_traced_9 : decode cX0_traced 9 = .ok (.ireturn, 1) := by decide +kernel
theorem dX0_isUnder_0 : decode cX0_isUnder 0 = .ok (.iload_n 0, 1) := by decide +kernel
theorem dX0_isUnder_1 : decode cX0_isUnder 1 = .ok (.istore_n 2, 1) := by decide +kernel
theorem dX0_isUnder_2 : decode cX0_isUnder 2 = .ok (.iconst 0, 1) := by decide +kernel
theorem dX0_isUnder_3 : decode cX0_isUnder 3 = .ok (.istore_n 3, 1) := by decide +kernel
theorem dX0_isUnder_4 : decode cX0_isUnder 4 = .ok (.iload_n 3, 1) := by decide +kernel
theorem dX0_isUnder_5 : decode cX0_isUnder 5 = .ok (.bipush 8, 2) := by decide +kernel
theorem dX0_isUnder_7 : decode cX0_isUnder 7 = .ok (.if_icmp .ge 32, 3) := by decide +kernel
theorem dX0_isUnder_10 : decode cX0_isUnder 10 = .ok (.iload_n 2, 1) := by decide +kernel
theorem dX0_isUnder_11 : decode cX0_isUnder 11 = .ok (.ifCond .lt 28, 3) := by decide +kernel
theorem dX0_isUnder_14 : decode cX0_isUnder 14 = .ok (.iload_n 2, 1) := by decide +kernel
theorem dX0_isUnder_15 : decode cX0_isUnder 15 = .ok (.bipush 8, 2) := by decide +kernel
theorem dX0_isUnder_17 : decode cX0_isUnder 17 = .ok (.if_icmp .ge 22, 3) := by decide +kernel
theorem dX0_isUnder_20 : decode cX0_isUnder 20 = .ok (.iload_n 2, 1) := by decide +kernel
theorem dX0_isUnder_21 : decode cX0_isUnder 21 = .ok (.iload_n 1, 1) := by decide +kernel
theorem dX0_isUnder_22 : decode cX0_isUnder 22 = .ok (.if_icmp .ne 5, 3) := by decide +kernel
theorem dX0_isUnder_25 : decode cX0_isUnder 25 = .ok (.iconst 1, 1) := by decide +kernel
theorem dX0_isUnder_26 : decode cX0_isUnder 26 = .ok (.ireturn, 1) := by decide +kernel
theorem dX0_isUnder_27 : decode cX0_isUnder 27 = .ok (.getstatic 31, 3) := by decide +kernel
theorem dX0_isUnder_30 : decode cX0_isUnder 30 = .ok (.iload_n 2, 1) := by decide +kernel
theorem dX0_isUnder_31 : decode cX0_isUnder 31 = .ok (.iaload, 1) := by decide +kernel
theorem dX0_isUnder_32 : decode cX0_isUnder 32 = .ok (.istore_n 2, 1) := by decide +kernel
theorem dX0_isUnder_33 : decode cX0_isUnder 33 = .ok (.iinc 3 1, 3) := by decide +kernel
theorem dX0_isUnder_36 : decode cX0_isUnder 36 = .ok (.goto (-32), 3) := by decide +kernel
theorem dX0_isUnder_39 : decode cX0_isUnder 39 = .ok (.iconst 0, 1) := by decide +kernel
theorem dX0_isUnder_40 : decode cX0_isUnder 40 = .ok (.ireturn, 1) := by decide +kernel
theorem dX0_perform_0 : decode cX0_perform 0 = .ok (.aload_n 0, 1) := by decide +kernel
theorem dX0_perform_1 : decode cX0_perform 1 = .ok (.iconst 0, 1) := by decide +kernel
theorem dX0_perform_2 : decode cX0_perform 2 = .ok (.putfield 22, 3) := by decide +kernel
theorem dX0_perform_5 : decode cX0_perform 5 = .ok (.aload_n 0, 1) := by decide +kernel
theorem dX0_perform_6 : decode cX0_perform 6 = .ok (.iload_n 1, 1) := by decide +kernel
theorem dX0_perform_7 : decode cX0_perform 7 = .ok (.invokevirtual 34, 3) := by decide +kernel
theorem dX0_perform_10 : decode cX0_perform 10 = .ok (.ifCond .eq 12, 3) := by decide +kernel
theorem dX0_perform_13 : decode cX0_perform 13 = .ok (.iload_n 2, 1) := by decide +kernel
theorem dX0_perform_14 : decode cX0_perform 14 = .ok (.ifCond .lt 8, 3) := by decide +kernel
theorem dX0_perform_17 : decode cX0_perform 17 = .ok (.iload_n 2, 1) := by decide +kernel
theorem dX0_perform_18 : decode cX0_perform 18 = .ok (.iconst 4, 1) := by decide +kernel
theorem dX0_perform_19 : decode cX0_perform 19 = .ok (.if_icmp .lt 5, 3) := by decide +kernel
theorem dX0_perform_22 : decode cX0_perform 22 = .ok (.iconst 0, 1) := by decide +kernel
theorem dX0_perform_23 : decode cX0_perform 23 = .ok (.ireturn, 1) := by decide +kernel
theorem dX0_perform_24 : decode cX0_perform 24 = .ok (.aload_n 0, 1) := by decide +kernel
theorem dX0_perform_25 : decode cX0_perform 25 = .ok (.iload_n 1, 1) := by decide +kernel
theorem dX0_perform_26 : decode cX0_perform 26 = .ok (.putfield 38, 3) := by decide +kernel
theorem dX0_perform_29 : decode cX0_perform 29 = .ok (.aload_n 0, 1) := by decide +kernel
theorem dX0_perform_30 : decode cX0_perform 30 = .ok (.iload_n 2, 1) := by decide +kernel
theorem dX0_perform_31 : decode cX0_perform 31 = .ok (.iload_n 3, 1) := by decide +kernel
theorem dX0_perform_32 : decode cX0_perform 32 = .ok (.iconst 0, 1) := by decide +kernel
theorem dX0_perform_33 : decode cX0_perform 33 = .ok (.invokevirtual 41, 3) := by decide +kernel
theorem dX0_perform_36 : decode cX0_perform 36 = .ok (.ireturn, 1) := by decide +kernel
theorem dX0_ask_0 : decode cX0_ask 0 = .ok (.aload_n 0, 1) := by decide +kernel
theorem dX0_ask_1 : decode cX0_ask 1 = .ok (.aload_n 0, 1) := by decide +kernel
theorem dX0_ask_2 : decode cX0_ask 2 = .ok (.getfield 11, 3) := by decide +kernel
theorem dX0_ask_5 : decode cX0_ask 5 = .ok (.aload_n 0, 1) := by decide +kernel
theorem dX0_ask_6 : decode cX0_ask 6 = .ok (.getfield 38, 3) := by decide +kernel
theorem dX0_ask_9 : decode cX0_ask 9 = .ok (.iaload, 1) := by decide +kernel
theorem dX0_ask_10 : decode cX0_ask 10 = .ok (.iload_n 1, 1) := by decide +kernel
theorem dX0_ask_11 : decode cX0_ask 11 = .ok (.iload_n 2, 1) := by decide +kernel
theorem dX0_ask_12 : decode cX0_ask 12 = .ok (.iload_n 3, 1) := by decide +kernel
theorem dX0_ask_13 : decode cX0_ask 13 = .ok (.iconst 1, 1) := by decide +kernel
theorem dX0_ask_14 : decode cX0_ask 14 = .ok (.iadd, 1) := by decide +kernel
theorem dX0_ask_15 : decode cX0_ask 15 = .ok (.invokevirtual 45, 3) := by decide +kernel
theorem dX0_ask_18 : decode cX0_ask 18 = .ok (.ireturn, 1) := by decide +kernel
theorem dX0_holderFrom_0 : decode cX0_holderFrom 0 = .ok (.iload_n 0, 1) := by decide +kernel
theorem dX0_holderFrom_1 : decode cX0_holderFrom 1 = .ok (.istore_n 2, 1) := by decide +kernel
theorem dX0_holderFrom_2 : decode cX0_holderFrom 2 = .ok (.iconst 0, 1) := by decide +kernel
theorem dX0_holderFrom_3 : decode cX0_holderFrom 3 = .ok (.istore_n 3, 1) := by decide +kernel
theorem dX0_holderFrom_4 : decode cX0_holderFrom 4 = .ok (.iload_n 3, 1) := by decide +kernel
theorem dX0_holderFrom_5 : decode cX0_holderFrom 5 = .ok (.bipush 8, 2) := by decide +kernel
theorem dX0_holderFrom_7 : decode cX0_holderFrom 7 = .ok (.if_icmp .ge 39, 3) := by decide +kernel
theorem dX0_holderFrom_10 : decode cX0_holderFrom 10 = .ok (.iload_n 2, 1) := by decide +kernel
theorem dX0_holderFrom_11 : decode cX0_holderFrom 11 = .ok (.ifCond .lt 35, 3) := by decide +kernel
theorem dX0_holderFrom_14 : decode cX0_holderFrom 14 = .ok (.iload_n 2, 1) := by decide +kernel
theorem dX0_holderFrom_15 : decode cX0_holderFrom 15 = .ok (.bipush 8, 2) := by decide +kernel
theorem dX0_holderFrom_17 : decode cX0_holderFrom 17 = .ok (.if_icmp .ge 29, 3) := by decide +kernel
theorem dX0_holderFrom_20 : decode cX0_holderFrom 20 = .ok (.getstatic 49, 3) := by decide +kernel
theorem dX0_holderFrom_23 : decode cX0_holderFrom 23 = .ok (.iload_n 2, 1) := by decide +kernel
theorem dX0_holderFrom_24 : decode cX0_holderFrom 24 = .ok (.iconst 4, 1) := by decide +kernel
theorem dX0_holderFrom_25 : decode cX0_holderFrom 25 = .ok (.imul, 1) := by decide +kernel
theorem dX0_holderFrom_26 : decode cX0_holderFrom 26 = .ok (.iload_n 1, 1) := by decide +kernel
theorem dX0_holderFrom_27 : decode cX0_holderFrom 27 = .ok (.iadd, 1) := by decide +kernel
theorem dX0_holderFrom_28 : decode cX0_holderFrom 28 = .ok (.iaload, 1) := by decide +kernel
theorem dX0_holderFrom_29 : decode cX0_holderFrom 29 = .ok (.ifCond .eq 5, 3) := by decide +kernel
theorem dX0_holderFrom_32 : decode cX0_holderFrom 32 = .ok (.iload_n 2, 1) := by decide +kernel
theorem dX0_holderFrom_33 : decode cX0_holderFrom 33 = .ok (.ireturn, 1) := by decide +kernel
theorem dX0_holderFrom_34 : decode cX0_holderFrom 34 = .ok (.getstatic 31, 3) := by decide +kernel
theorem dX0_holderFrom_37 : decode cX0_holderFrom 37 = .ok (.iload_n 2, 1) := by decide +kernel
theorem dX0_holderFrom_38 : decode cX0_holderFrom 38 = .ok (.iaload, 1) := by decide +kernel
theorem dX0_holderFrom_39 : decode cX0_holderFrom 39 = .ok (.istore_n 2, 1) := by decide +kernel
theorem dX0_holderFrom_40 : decode cX0_holderFrom 40 = .ok (.iinc 3 1, 3) := by decide +kernel
theorem dX0_holderFrom_43 : decode cX0_holderFrom 43 = .ok (.goto (-39), 3) := by decide +kernel
theorem dX0_holderFrom_46 : decode cX0_holderFrom 46 = .ok (.iconst (-1), 1) := by decide +kernel
theorem dX0_holderFrom_47 : decode cX0_holderFrom 47 = .ok (.ireturn, 1) := by decide +kernel
theorem dX0_note_0 : decode cX0_note 0 = .ok (.aload_n 0, 1) := by decide +kernel
theorem dX0_note_1 : decode cX0_note 1 = .ok (.getfield 22, 3) := by decide +kernel
theorem dX0_note_4 : decode cX0_note 4 = .ok (.bipush 24, 2) := by decide +kernel
theorem dX0_note_6 : decode cX0_note 6 = .ok (.if_icmp .ge 13, 3) := by decide +kernel
theorem dX0_note_9 : decode cX0_note 9 = .ok (.aload_n 0, 1) := by decide +kernel
theorem dX0_note_10 : decode cX0_note 10 = .ok (.getfield 15, 3) := by decide +kernel
theorem dX0_note_13 : decode cX0_note 13 = .ok (.aload_n 0, 1) := by decide +kernel
theorem dX0_note_14 : decode cX0_note 14 = .ok (.getfield 22, 3) := by decide +kernel
theorem dX0_note_17 : decode cX0_note 17 = .ok (.iload_n 1, 1) := by decide +kernel
theorem dX0_note_18 : decode cX0_note 18 = .ok (.iastore, 1) := by decide +kernel
theorem dX0_note_19 : decode cX0_note 19 = .ok (.aload_n 0, 1) := by decide +kernel
theorem dX0_note_20 : decode cX0_note 20 = .ok (.dup, 1) := by decide +kernel
theorem dX0_note_21 : decode cX0_note 21 = .ok (.getfield 22, 3) := by decide +kernel
theorem dX0_note_24 : decode cX0_note 24 = .ok (.iconst 1, 1) := by decide +kernel
theorem dX0_note_25 : decode cX0_note 25 = .ok (.iadd, 1) := by decide +kernel
theorem dX0_note_26 : decode cX0_note 26 = .ok (.putfield 22, 3) := by decide +kernel
theorem dX0_note_29 : decode cX0_note 29 = .ok (.return_, 1) := by decide +kernel
theorem dX0_run_0 : decode cX0_run 0 = .ok (.iload_n 1, 1) := by decide +kernel
theorem dX0_run_1 : decode cX0_run 1 = .ok (.iload_n 2, 1) := by decide +kernel
theorem dX0_run_2 : decode cX0_run 2 = .ok (.invokestatic 52, 3) := by decide +kernel
theorem dX0_run_5 : decode cX0_run 5 = .ok (.istore 5, 2) := by decide +kernel
theorem dX0_run_7 : decode cX0_run 7 = .ok (.iload 5, 2) := by decide +kernel
theorem dX0_run_9 : decode cX0_run 9 = .ok (.ifCond .lt 10, 3) := by decide +kernel
theorem dX0_run_12 : decode cX0_run 12 = .ok (.iload 4, 2) := by decide +kernel
theorem dX0_run_14 : decode cX0_run 14 = .ok (.bipush 40, 2) := by decide +kernel
theorem dX0_run_16 : decode cX0_run 16 = .ok (.if_icmp .le 5, 3) := by decide +kernel
theorem dX0_run_19 : decode cX0_run 19 = .ok (.iconst 0, 1) := by decide +kernel
theorem dX0_run_20 : decode cX0_run 20 = .ok (.ireturn, 1) := by decide +kernel
theorem dX0_run_21 : decode cX0_run 21 = .ok (.getstatic 49, 3) := by decide +kernel
theorem dX0_run_24 : decode cX0_run 24 = .ok (.iload 5, 2) := by decide +kernel
theorem dX0_run_26 : decode cX0_run 26 = .ok (.iconst 4, 1) := by decide +kernel
theorem dX0_run_27 : decode cX0_run 27 = .ok (.imul, 1) := by decide +kernel
theorem dX0_run_28 : decode cX0_run 28 = .ok (.iload_n 2, 1) := by decide +kernel
theorem dX0_run_29 : decode cX0_run 29 = .ok (.iadd, 1) := by decide +kernel
theorem dX0_run_30 : decode cX0_run 30 = .ok (.iaload, 1) := by decide +kernel
theorem dX0_run_31 : decode cX0_run 31 = .ok (.istore 6, 2) := by decide +kernel
theorem dX0_run_33 : decode cX0_run 33 = .ok (.getstatic 31, 3) := by decide +kernel
theorem dX0_run_36 : decode cX0_run 36 = .ok (.iload 5, 2) := by decide +kernel
theorem dX0_run_38 : decode cX0_run 38 = .ok (.iaload, 1) := by decide +kernel
theorem dX0_run_39 : decode cX0_run 39 = .ok (.istore 7, 2) := by decide +kernel
theorem dX0_run_41 : decode cX0_run 41 = .ok (.aload_n 0, 1) := by decide +kernel
theorem dX0_run_42 : decode cX0_run 42 = .ok (.iload 6, 2) := by decide +kernel
theorem dX0_run_44 : decode cX0_run 44 = .ok (.invokevirtual 55, 3) := by decide +kernel
theorem dX0_run_47 : decode cX0_run 47 = .ok (.iload 6, 2) := by decide +kernel
theorem dX0_run_49 : decode cX0_run 49 = .ok (.lookupswitch 329 #[(1, 123), (2, 130), (10, 148), (11, 159), (20, 166), (30, 181), (40, 195), (41, 210), (50, 225), (60, 240), (61, 262), (70, 277), (80, 292), (81, 314)], 123) := by decide +kernel
theorem dX0_run_172 : decode cX0_run 172 = .ok (.iload_n 3, 1) := by decide +kernel
theorem dX0_run_173 : decode cX0_run 173 = .ok (.aload_n 0, 1) := by decide +kernel
theorem dX0_run_174 : decode cX0_run 174 = .ok (.getfield 38, 3) := by decide +kernel
theorem dX0_run_177 : decode cX0_run 177 = .ok (.iadd, 1) := by decide +kernel
theorem dX0_run_178 : decode cX0_run 178 = .ok (.ireturn, 1) := by decide +kernel
theorem dX0_run_179 : decode cX0_run 179 = .ok (.aload_n 0, 1) := by decide +kernel
theorem dX0_run_180 : decode cX0_run 180 = .ok (.iconst 1, 1) := by decide +kernel
theorem dX0_run_181 : decode cX0_run 181 = .ok (.iload_n 3, 1) := by decide +kernel
theorem dX0_run_182 : decode cX0_run 182 = .ok (.iload 4, 2) := by decide +kernel
theorem dX0_run_184 : decode cX0_run 184 = .ok (.invokevirtual 41, 3) := by decide +kernel
theorem dX0_run_187 : decode cX0_run 187 = .ok (.aload_n 0, 1) := by decide +kernel
theorem dX0_run_188 : decode cX0_run 188 = .ok (.iconst 2, 1) := by decide +kernel
theorem dX0_run_189 : decode cX0_run 189 = .ok (.iconst 1, 1) := by decide +kernel
theorem dX0_run_190 : decode cX0_run 190 = .ok (.iload 4, 2) := by decide +kernel
theorem dX0_run_192 : decode cX0_run 192 = .ok (.invokevirtual 41, 3) := by decide +kernel
theorem dX0_run_195 : decode cX0_run 195 = .ok (.isub, 1) := by decide +kernel
theorem dX0_run_196 : decode cX0_run 196 = .ok (.ireturn, 1) := by decide +kernel
theorem dX0_run_197 : decode cX0_run 197 = .ok (.aload_n 0, 1) := by decide +kernel
theorem dX0_run_198 : decode cX0_run 198 = .ok (.iconst 0, 1) := by decide +kernel
theorem dX0_run_199 : decode cX0_run 199 = .ok (.iload_n 3, 1) := by decide +kernel
theorem dX0_run_200 : decode cX0_run 200 = .ok (.iload 4, 2) := by decide +kernel
theorem dX0_run_202 : decode cX0_run 202 = .ok (.invokevirtual 41, 3) := by decide +kernel
theorem dX0_run_205 : decode cX0_run 205 = .ok (.iconst 2, 1) := by decide +kernel
theorem dX0_run_206 : decode cX0_run 206 = .ok (.imul, 1) := by decide +kernel
theorem dX0_run_207 : decode cX0_run 207 = .ok (.ireturn, 1) := by decide +kernel
theorem dX0_run_208 : decode cX0_run 208 = .ok (.iload_n 3, 1) := by decide +kernel
theorem dX0_run_209 : decode cX0_run 209 = .ok (.aload_n 0, 1) := by decide +kernel
theorem dX0_run_210 : decode cX0_run 210 = .ok (.getfield 38, 3) := by decide +kernel
theorem dX0_run_213 : decode cX0_run 213 = .ok (.ixor, 1) := by decide +kernel
theorem dX0_run_214 : decode cX0_run 214 = .ok (.ireturn, 1) := by decide +kernel
theorem dX0_run_215 : decode cX0_run 215 = .ok (.aload_n 0, 1) := by decide +kernel
theorem dX0_run_216 : decode cX0_run 216 = .ok (.iload 7, 2) := by decide +kernel
theorem dX0_run_218 : decode cX0_run 218 = .ok (.iload_n 2, 1) := by decide +kernel
theorem dX0_run_219 : decode cX0_run 219 = .ok (.iload_n 3, 1) := by decide +kernel
theorem dX0_run_220 : decode cX0_run 220 = .ok (.iload 4, 2) := by decide +kernel
theorem dX0_run_222 : decode cX0_run 222 = .ok (.iconst 1, 1) := by decide +kernel
theorem dX0_run_223 : decode cX0_run 223 = .ok (.iadd, 1) := by decide +kernel
theorem dX0_run_224 : decode cX0_run 224 = .ok (.invokevirtual 45, 3) := by decide +kernel
theorem dX0_run_227 : decode cX0_run 227 = .ok (.iconst 3, 1) := by decide +kernel
theorem dX0_run_228 : decode cX0_run 228 = .ok (.iadd, 1) := by decide +kernel
theorem dX0_run_229 : decode cX0_run 229 = .ok (.ireturn, 1) := by decide +kernel
theorem dX0_run_230 : decode cX0_run 230 = .ok (.aload_n 0, 1) := by decide +kernel
theorem dX0_run_231 : decode cX0_run 231 = .ok (.iload 7, 2) := by decide +kernel
theorem dX0_run_233 : decode cX0_run 233 = .ok (.iload_n 2, 1) := by decide +kernel
theorem dX0_run_234 : decode cX0_run 234 = .ok (.iload_n 3, 1) := by decide +kernel
theorem dX0_run_235 : decode cX0_run 235 = .ok (.iload 4, 2) := by decide +kernel
theorem dX0_run_237 : decode cX0_run 237 = .ok (.iconst 1, 1) := by decide +kernel
theorem dX0_run_238 : decode cX0_run 238 = .ok (.iadd, 1) := by decide +kernel
theorem dX0_run_239 : decode cX0_run 239 = .ok (.invokevirtual 45, 3) := by decide +kernel
theorem dX0_run_242 : decode cX0_run 242 = .ok (.ineg, 1) := by decide +kernel
theorem dX0_run_243 : decode cX0_run 243 = .ok (.ireturn, 1) := by decide +kernel
theorem dX0_run_244 : decode cX0_run 244 = .ok (.aload_n 0, 1) := by decide +kernel
theorem dX0_run_245 : decode cX0_run 245 = .ok (.iload 7, 2) := by decide +kernel
theorem dX0_run_247 : decode cX0_run 247 = .ok (.iload_n 2, 1) := by decide +kernel
theorem dX0_run_248 : decode cX0_run 248 = .ok (.iload_n 3, 1) := by decide +kernel
theorem dX0_run_249 : decode cX0_run 249 = .ok (.iload 4, 2) := by decide +kernel
theorem dX0_run_251 : decode cX0_run 251 = .ok (.iconst 1, 1) := by decide +kernel
theorem dX0_run_252 : decode cX0_run 252 = .ok (.iadd, 1) := by decide +kernel
theorem dX0_run_253 : decode cX0_run 253 = .ok (.invokevirtual 45, 3) := by decide +kernel
theorem dX0_run_256 : decode cX0_run 256 = .ok (.iconst 3, 1) := by decide +kernel
theorem dX0_run_257 : decode cX0_run 257 = .ok (.imul, 1) := by decide +kernel
theorem dX0_run_258 : decode cX0_run 258 = .ok (.ireturn, 1) := by decide +kernel
theorem dX0_run_259 : decode cX0_run 259 = .ok (.aload_n 0, 1) := by decide +kernel
theorem dX0_run_260 : decode cX0_run 260 = .ok (.iload 7, 2) := by decide +kernel
theorem dX0_run_262 : decode cX0_run 262 = .ok (.iload_n 2, 1) := by decide +kernel
theorem dX0_run_263 : decode cX0_run 263 = .ok (.iload_n 3, 1) := by decide +kernel
theorem dX0_run_264 : decode cX0_run 264 = .ok (.iconst 1, 1) := by decide +kernel
theorem dX0_run_265 : decode cX0_run 265 = .ok (.iadd, 1) := by decide +kernel
theorem dX0_run_266 : decode cX0_run 266 = .ok (.iload 4, 2) := by decide +kernel
theorem dX0_run_268 : decode cX0_run 268 = .ok (.iconst 1, 1) := by decide +kernel
theorem dX0_run_269 : decode cX0_run 269 = .ok (.iadd, 1) := by decide +kernel
theorem dX0_run_270 : decode cX0_run 270 = .ok (.invokevirtual 45, 3) := by decide +kernel
theorem dX0_run_273 : decode cX0_run 273 = .ok (.ireturn, 1) := by decide +kernel
theorem dX0_run_274 : decode cX0_run 274 = .ok (.aload_n 0, 1) := by decide +kernel
theorem dX0_run_275 : decode cX0_run 275 = .ok (.iload 7, 2) := by decide +kernel
theorem dX0_run_277 : decode cX0_run 277 = .ok (.iload_n 2, 1) := by decide +kernel
theorem dX0_run_278 : decode cX0_run 278 = .ok (.iload_n 3, 1) := by decide +kernel
theorem dX0_run_279 : decode cX0_run 279 = .ok (.iload 4, 2) := by decide +kernel
theorem dX0_run_281 : decode cX0_run 281 = .ok (.iconst 1, 1) := by decide +kernel
theorem dX0_run_282 : decode cX0_run 282 = .ok (.iadd, 1) := by decide +kernel
theorem dX0_run_283 : decode cX0_run 283 = .ok (.invokevirtual 45, 3) := by decide +kernel
theorem dX0_run_286 : decode cX0_run 286 = .ok (.iconst 5, 1) := by decide +kernel
theorem dX0_run_287 : decode cX0_run 287 = .ok (.ixor, 1) := by decide +kernel
theorem dX0_run_288 : decode cX0_run 288 = .ok (.ireturn, 1) := by decide +kernel
theorem dX0_run_289 : decode cX0_run 289 = .ok (.aload_n 0, 1) := by decide +kernel
theorem dX0_run_290 : decode cX0_run 290 = .ok (.iload 7, 2) := by decide +kernel
theorem dX0_run_292 : decode cX0_run 292 = .ok (.iload_n 2, 1) := by decide +kernel
theorem dX0_run_293 : decode cX0_run 293 = .ok (.iload_n 3, 1) := by decide +kernel
theorem dX0_run_294 : decode cX0_run 294 = .ok (.iload 4, 2) := by decide +kernel
theorem dX0_run_296 : decode cX0_run 296 = .ok (.iconst 1, 1) := by decide +kernel
theorem dX0_run_297 : decode cX0_run 297 = .ok (.iadd, 1) := by decide +kernel
theorem dX0_run_298 : decode cX0_run 298 = .ok (.invokevirtual 45, 3) := by decide +kernel
theorem dX0_run_301 : decode cX0_run 301 = .ok (.aload_n 0, 1) := by decide +kernel
theorem dX0_run_302 : decode cX0_run 302 = .ok (.iconst 0, 1) := by decide +kernel
theorem dX0_run_303 : decode cX0_run 303 = .ok (.iconst 2, 1) := by decide +kernel
theorem dX0_run_304 : decode cX0_run 304 = .ok (.iload 4, 2) := by decide +kernel
theorem dX0_run_306 : decode cX0_run 306 = .ok (.invokevirtual 41, 3) := by decide +kernel
theorem dX0_run_309 : decode cX0_run 309 = .ok (.isub, 1) := by decide +kernel
theorem dX0_run_310 : decode cX0_run 310 = .ok (.ireturn, 1) := by decide +kernel
theorem dX0_run_311 : decode cX0_run 311 = .ok (.aload_n 0, 1) := by decide +kernel
theorem dX0_run_312 : decode cX0_run 312 = .ok (.iload 7, 2) := by decide +kernel
theorem dX0_run_314 : decode cX0_run 314 = .ok (.iload_n 2, 1) := by decide +kernel
theorem dX0_run_315 : decode cX0_run 315 = .ok (.iload_n 3, 1) := by decide +kernel
theorem dX0_run_316 : decode cX0_run 316 = .ok (.iload 4, 2) := by decide +kernel
theorem dX0_run_318 : decode cX0_run 318 = .ok (.iconst 1, 1) := by decide +kernel
theorem dX0_run_319 : decode cX0_run 319 = .ok (.iadd, 1) := by decide +kernel
theorem dX0_run_320 : decode cX0_run 320 = .ok (.invokevirtual 45, 3) := by decide +kernel
theorem dX0_run_323 : decode cX0_run 323 = .ok (.iconst 1, 1) := by decide +kernel
theorem dX0_run_324 : decode cX0_run 324 = .ok (.iadd, 1) := by decide +kernel
theorem dX0_run_325 : decode cX0_run 325 = .ok (.ireturn, 1) := by decide +kernel
theorem dX0_run_326 : decode cX0_run 326 = .ok (.aload_n 0, 1) := by decide +kernel
theorem dX0_run_327 : decode cX0_run 327 = .ok (.iload 7, 2) := by decide +kernel
theorem dX0_run_329 : decode cX0_run 329 = .ok (.iload_n 2, 1) := by decide +kernel
theorem dX0_run_330 : decode cX0_run 330 = .ok (.iload_n 3, 1) := by decide +kernel
theorem dX0_run_331 : decode cX0_run 331 = .ok (.iload 4, 2) := by decide +kernel
theorem dX0_run_333 : decode cX0_run 333 = .ok (.iconst 1, 1) := by decide +kernel
theorem dX0_run_334 : decode cX0_run 334 = .ok (.iadd, 1) := by decide +kernel
theorem dX0_run_335 : decode cX0_run 335 = .ok (.invokevirtual 45, 3) := by decide +kernel
theorem dX0_run_338 : decode cX0_run 338 = .ok (.iconst 2, 1) := by decide +kernel
theorem dX0_run_339 : decode cX0_run 339 = .ok (.imul, 1) := by decide +kernel
theorem dX0_run_340 : decode cX0_run 340 = .ok (.ireturn, 1) := by decide +kernel
theorem dX0_run_341 : decode cX0_run 341 = .ok (.aload_n 0, 1) := by decide +kernel
theorem dX0_run_342 : decode cX0_run 342 = .ok (.iload 7, 2) := by decide +kernel
theorem dX0_run_344 : decode cX0_run 344 = .ok (.iload_n 2, 1) := by decide +kernel
theorem dX0_run_345 : decode cX0_run 345 = .ok (.iload_n 3, 1) := by decide +kernel
theorem dX0_run_346 : decode cX0_run 346 = .ok (.iload 4, 2) := by decide +kernel
theorem dX0_run_348 : decode cX0_run 348 = .ok (.iconst 1, 1) := by decide +kernel
theorem dX0_run_349 : decode cX0_run 349 = .ok (.iadd, 1) := by decide +kernel
theorem dX0_run_350 : decode cX0_run 350 = .ok (.invokevirtual 45, 3) := by decide +kernel
theorem dX0_run_353 : decode cX0_run 353 = .ok (.aload_n 0, 1) := by decide +kernel
theorem dX0_run_354 : decode cX0_run 354 = .ok (.iconst 2, 1) := by decide +kernel
theorem dX0_run_355 : decode cX0_run 355 = .ok (.iconst 2, 1) := by decide +kernel
theorem dX0_run_356 : decode cX0_run 356 = .ok (.iload 4, 2) := by decide +kernel
theorem dX0_run_358 : decode cX0_run 358 = .ok (.invokevirtual 41, 3) := by decide +kernel
theorem dX0_run_361 : decode cX0_run 361 = .ok (.iadd, 1) := by decide +kernel
theorem dX0_run_362 : decode cX0_run 362 = .ok (.ireturn, 1) := by decide +kernel
theorem dX0_run_363 : decode cX0_run 363 = .ok (.aload_n 0, 1) := by decide +kernel
theorem dX0_run_364 : decode cX0_run 364 = .ok (.iload 7, 2) := by decide +kernel
theorem dX0_run_366 : decode cX0_run 366 = .ok (.iload_n 2, 1) := by decide +kernel
theorem dX0_run_367 : decode cX0_run 367 = .ok (.iload_n 3, 1) := by decide +kernel
theorem dX0_run_368 : decode cX0_run 368 = .ok (.iload 4, 2) := by decide +kernel
theorem dX0_run_370 : decode cX0_run 370 = .ok (.iconst 1, 1) := by decide +kernel
theorem dX0_run_371 : decode cX0_run 371 = .ok (.iadd, 1) := by decide +kernel
theorem dX0_run_372 : decode cX0_run 372 = .ok (.invokevirtual 45, 3) := by decide +kernel
theorem dX0_run_375 : decode cX0_run 375 = .ok (.iconst 1, 1) := by decide +kernel
theorem dX0_run_376 : decode cX0_run 376 = .ok (.isub, 1) := by decide +kernel
theorem dX0_run_377 : decode cX0_run 377 = .ok (.ireturn, 1) := by decide +kernel
theorem dX0_run_378 : decode cX0_run 378 = .ok (.iconst 0, 1) := by decide +kernel
theorem dX0_run_379 : decode cX0_run 379 = .ok (.ireturn, 1) := by decide +kernel
theorem dX1_init_0 : decode cX1_init 0 = .ok (.aload_n 0, 1) := by decide +kernel
theorem dX1_init_1 : decode cX1_init 1 = .ok (.invokespecial 1, 3) := by decide +kernel
theorem dX1_init_4 : decode cX1_init 4 = .ok (.aload_n 0, 1) := by decide +kernel
theorem dX1_init_5 : decode cX1_init 5 = .ok (.bipush 40, 2) := by decide +kernel
theorem dX1_init_7 : decode cX1_init 7 = .ok (.newarray .int, 2) := by decide +kernel
theorem dX1_init_9 : decode cX1_init 9 = .ok (.putfield 9, 3) := by decide +kernel
theorem dX1_init_12 : decode cX1_init 12 = .ok (.aload_n 0, 1) := by decide +kernel
theorem dX1_init_13 : decode cX1_init 13 = .ok (.bipush 40, 2) := by decide +kernel
theorem dX1_init_15 : decode cX1_init 15 = .ok (.newarray .int, 2) := by decide +kernel
theorem dX1_init_17 : decode cX1_init 17 = .ok (.putfield 13, 3) := by decide +kernel
theorem dX1_init_20 : decode cX1_init 20 = .ok (.aload_n 0, 1) := by decide +kernel
theorem dX1_init_21 : decode cX1_init 21 = .ok (.bipush 40, 2) := by decide +kernel
theorem dX1_init_23 : decode cX1_init 23 = .ok (.newarray .int, 2) := by decide +kernel
theorem dX1_init_25 : decode cX1_init 25 = .ok (.putfield 16, 3) := by decide +kernel
theorem dX1_init_28 : decode cX1_init 28 = .ok (.aload_n 0, 1) := by decide +kernel
theorem dX1_init_29 : decode cX1_init 29 = .ok (.bipush 40, 2) := by decide +kernel
theorem dX1_init_31 : decode cX1_init 31 = .ok (.newarray .int, 2) := by decide +kernel
theorem dX1_init_33 : decode cX1_init 33 = .ok (.putfield 19, 3) := by decide +kernel
theorem dX1_init_36 : decode cX1_init 36 = .ok (.aload_n 0, 1) := by decide +kernel
theorem dX1_init_37 : decode cX1_init 37 = .ok (.aload_n 1, 1) := by decide +kernel
theorem dX1_init_38 : decode cX1_init 38 = .ok (.putfield 22, 3) := by decide +kernel
theorem dX1_init_41 : decode cX1_init 41 = .ok (.return_, 1) := by decide +kernel
theorem dX1_add_0 : decode cX1_add 0 = .ok (.aload_n 0, 1) := by decide +kernel
theorem dX1_add_1 : decode cX1_add 1 = .ok (.getfield 26, 3) := by decide +kernel
theorem dX1_add_4 : decode cX1_add 4 = .ok (.bipush 40, 2) := by decide +kernel
theorem dX1_add_6 : decode cX1_add 6 = .ok (.if_icmp .lt 7, 3) := by decide +kernel
theorem dX1_add_9 : decode cX1_add 9 = .ok (.aload_n 0, 1) := by decide +kernel
theorem dX1_add_10 : decode cX1_add 10 = .ok (.invokevirtual 30, 3) := by decide +kernel
theorem dX1_add_13 : decode cX1_add 13 = .ok (.aload_n 0, 1) := by decide +kernel
theorem dX1_add_14 : decode cX1_add 14 = .ok (.getfield 9, 3) := by decide +kernel
theorem dX1_add_17 : decode cX1_add 17 = .ok (.aload_n 0, 1) := by decide +kernel
theorem dX1_add_18 : decode cX1_add 18 = .ok (.getfield 26, 3) := by decide +kernel
theorem dX1_add_21 : decode cX1_add 21 = .ok (.iload_n 1, 1) := by decide +kernel
theorem dX1_add_22 : decode cX1_add 22 = .ok (.iastore, 1) := by decide +kernel
theorem dX1_add_23 : decode cX1_add 23 = .ok (.aload_n 0, 1) := by decide +kernel
theorem dX1_add_24 : decode cX1_add 24 = .ok (.getfield 13, 3) := by decide +kernel
theorem dX1_add_27 : decode cX1_add 27 = .ok (.aload_n 0, 1) := by decide +kernel
theorem dX1_add_28 : decode cX1_add 28 = .ok (.getfield 26, 3) := by decide +kernel
theorem dX1_add_31 : decode cX1_add 31 = .ok (.iload_n 2, 1) := by decide +kernel
theorem dX1_add_32 : decode cX1_add 32 = .ok (.iastore, 1) := by decide +kernel
theorem dX1_add_33 : decode cX1_add 33 = .ok (.aload_n 0, 1) := by decide +kernel
theorem dX1_add_34 : decode cX1_add 34 = .ok (.getfield 16, 3) := by decide +kernel
theorem dX1_add_37 : decode cX1_add 37 = .ok (.aload_n 0, 1) := by decide +kernel
theorem dX1_add_38 : decode cX1_add 38 = .ok (.getfield 26, 3) := by decide +kernel
theorem dX1_add_41 : decode cX1_add 41 = .ok (.iload_n 3, 1) := by decide +kernel
theorem dX1_add_42 : decode cX1_add 42 = .ok (.iastore, 1) := by decide +kernel
theorem dX1_add_43 : decode cX1_add 43 = .ok (.aload_n 0, 1) := by decide +kernel
theorem dX1_add_44 : decode cX1_add 44 = .ok (.getfield 19, 3) := by decide +kernel
theorem dX1_add_47 : decode cX1_add 47 = .ok (.aload_n 0, 1) := by decide +kernel
theorem dX1_add_48 : decode cX1_add 48 = .ok (.getfield 26, 3) := by decide +kernel
theorem dX1_add_51 : decode cX1_add 51 = .ok (.iload 4, 2) := by decide +kernel
theorem dX1_add_53 : decode cX1_add 53 = .ok (.iastore, 1) := by decide +kernel
theorem dX1_add_54 : decode cX1_add 54 = .ok (.aload_n 0, 1) := by decide +kernel
theorem dX1_add_55 : decode cX1_add 55 = .ok (.dup, 1) := by decide +kernel
theorem dX1_add_56 : decode cX1_add 56 = .ok (.getfield 26, 3) := by decide +kernel
theorem dX1_add_59 : decode cX1_add 59 = .ok (.iconst 1, 1) := by decide +kernel
theorem dX1_add_60 : decode cX1_add 60 = .ok (.iadd, 1) := by decide +kernel
theorem dX1_add_61 : decode cX1_add 61 = .ok (.putfield 26, 3) := by decide +kernel
theorem dX1_add_64 : decode cX1_add 64 = .ok (.aload_n 0, 1) := by decide +kernel
theorem dX1_add_65 : decode cX1_add 65 = .ok (.aload_n 0, 1) := by decide +kernel
theorem dX1_add_66 : decode cX1_add 66 = .ok (.getfield 26, 3) := by decide +kernel
theorem dX1_add_69 : decode cX1_add 69 = .ok (.putfield 33, 3) := by decide +kernel
theorem dX1_add_72 : decode cX1_add 72 = .ok (.return_, 1) := by decide +kernel
theorem dX1_forgetOldest_0 : decode cX1_forgetOldest 0 = .ok (.aload_n 0, 1) := by decide +kernel
theorem dX1_forgetOldest_1 : decode cX1_forgetOldest 1 = .ok (.getfield 9, 3) := by decide +kernel
theorem dX1_forgetOldest_4 : decode cX1_forgetOldest 4 = .ok (.iconst 1, 1) := by decide +kernel
theorem dX1_forgetOldest_5 : decode cX1_forgetOldest 5 = .ok (.aload_n 0, 1) := by decide +kernel
theorem dX1_forgetOldest_6 : decode cX1_forgetOldest 6 = .ok (.getfield 9, 3) := by decide +kernel
theorem dX1_forgetOldest_9 : decode cX1_forgetOldest 9 = .ok (.iconst 0, 1) := by decide +kernel
theorem dX1_forgetOldest_10 : decode cX1_forgetOldest 10 = .ok (.bipush 39, 2) := by decide +kernel
theorem dX1_forgetOldest_12 : decode cX1_forgetOldest 12 = .ok (.invokestatic 36, 3) := by decide +kernel
theorem dX1_forgetOldest_15 : decode cX1_forgetOldest 15 = .ok (.aload_n 0, 1) := by decide +kernel
theorem dX1_forgetOldest_16 : decode cX1_forgetOldest 16 = .ok (.getfield 13, 3) := by decide +kernel
theorem dX1_forgetOldest_19 : decode cX1_forgetOldest 19 = .ok (.iconst 1, 1) := by decide +kernel
theorem dX1_forgetOldest_20 : decode cX1_forgetOldest 20 = .ok (.aload_n 0, 1) := by decide +kernel
theorem dX1_forgetOldest_21 : decode cX1_forgetOldest 21 = .ok (.getfield 13, 3) := by decide +kernel
theorem dX1_forgetOldest_24 : decode cX1_forgetOldest 24 = .ok (.iconst 0, 1) := by decide +kernel
theorem dX1_forgetOldest_25 : decode cX1_forgetOldest 25 = .ok (.bipush 39, 2) := by decide +kernel
theorem dX1_forgetOldest_27 : decode cX1_forgetOldest 27 = .ok (.invokestatic 36, 3) := by decide +kernel
theorem dX1_forgetOldest_30 : decode cX1_forgetOldest 30 = .ok (.aload_n 0, 1) := by decide +kernel
theorem dX1_forgetOldest_31 : decode cX1_forgetOldest 31 = .ok (.getfield 16, 3) := by decide +kernel
theorem dX1_forgetOldest_34 : decode cX1_forgetOldest 34 = .ok (.iconst 1, 1) := by decide +kernel
theorem dX1_forgetOldest_35 : decode cX1_forgetOldest 35 = .ok (.aload_n 0, 1) := by decide +kernel
theorem dX1_forgetOldest_36 : decode cX1_forgetOldest 36 = .ok (.getfield 16, 3) := by decide +kernel
theorem dX1_forgetOldest_39 : decode cX1_forgetOldest 39 = .ok (.iconst 0, 1) := by decide +kernel
theorem dX1_forgetOldest_40 : decode cX1_forgetOldest 40 = .ok (.bipush 39, 2) := by decide +kernel
theorem dX1_forgetOldest_42 : decode cX1_forgetOldest 42 = .ok (.invokestatic 36, 3) := by decide +kernel
theorem dX1_forgetOldest_45 : decode cX1_forgetOldest 45 = .ok (.aload_n 0, 1) := by decide +kernel
theorem dX1_forgetOldest_46 : decode cX1_forgetOldest 46 = .ok (.getfield 19, 3) := by decide +kernel
theorem dX1_forgetOldest_49 : decode cX1_forgetOldest 49 = .ok (.iconst 1, 1) := by decide +kernel
theorem dX1_forgetOldest_50 : decode cX1_forgetOldest 50 = .ok (.aload_n 0, 1) := by decide +kernel
theorem dX1_forgetOldest_51 : decode cX1_forgetOldest 51 = .ok (.getfield 19, 3) := by decide +kernel
theorem dX1_forgetOldest_54 : decode cX1_forgetOldest 54 = .ok (.iconst 0, 1) := by decide +kernel
theorem dX1_forgetOldest_55 : decode cX1_forgetOldest 55 = .ok (.bipush 39, 2) := by decide +kernel
theorem dX1_forgetOldest_57 : decode cX1_forgetOldest 57 = .ok (.invokestatic 36, 3) := by decide +kernel
theorem dX1_forgetOldest_60 : decode cX1_forgetOldest 60 = .ok (.aload_n 0, 1) := by decide +kernel
theorem dX1_forgetOldest_61 : decode cX1_forgetOldest 61 = .ok (.bipush 39, 2) := by decide +kernel
theorem dX1_forgetOldest_63 : decode cX1_forgetOldest 63 = .ok (.putfield 26, 3) := by decide +kernel
theorem dX1_forgetOldest_66 : decode cX1_forgetOldest 66 = .ok (.return_, 1) := by decide +kernel
theorem dX1_takeBack_0 : decode cX1_takeBack 0 = .ok (.aload_n 0, 1) := by decide +kernel
theorem dX1_takeBack_1 : decode cX1_takeBack 1 = .ok (.getfield 26, 3) := by decide +kernel
theorem dX1_takeBack_4 : decode cX1_takeBack 4 = .ok (.ifCond .gt 5, 3) := by decide +kernel
theorem dX1_takeBack_7 : decode cX1_takeBack 7 = .ok (.iconst 0, 1) := by decide +kernel
theorem dX1_takeBack_8 : decode cX1_takeBack 8 = .ok (.ireturn, 1) := by decide +kernel
theorem dX1_takeBack_9 : decode cX1_takeBack 9 = .ok (.aload_n 0, 1) := by decide +kernel
theorem dX1_takeBack_10 : decode cX1_takeBack 10 = .ok (.dup, 1) := by decide +kernel
theorem dX1_takeBack_11 : decode cX1_takeBack 11 = .ok (.getfield 26, 3) := by decide +kernel
theorem dX1_takeBack_14 : decode cX1_takeBack 14 = .ok (.iconst 1, 1) := by decide +kernel
theorem dX1_takeBack_15 : decode cX1_takeBack 15 = .ok (.isub, 1) := by decide +kernel
theorem dX1_takeBack_16 : decode cX1_takeBack 16 = .ok (.putfield 26, 3) := by decide +kernel
theorem dX1_takeBack_19 : decode cX1_takeBack 19 = .ok (.aload_n 0, 1) := by decide +kernel
theorem dX1_takeBack_20 : decode cX1_takeBack 20 = .ok (.getfield 22, 3) := by decide +kernel
theorem dX1_takeBack_23 : decode cX1_takeBack 23 = .ok (.aload_n 0, 1) := by decide +kernel
theorem dX1_takeBack_24 : decode cX1_takeBack 24 = .ok (.getfield 9, 3) := by decide +kernel
theorem dX1_takeBack_27 : decode cX1_takeBack 27 = .ok (.aload_n 0, 1) := by decide +kernel
theorem dX1_takeBack_28 : decode cX1_takeBack 28 = .ok (.getfield 26, 3) := by decide +kernel
theorem dX1_takeBack_31 : decode cX1_takeBack 31 = .ok (.iaload, 1) := by decide +kernel
theorem dX1_takeBack_32 : decode cX1_takeBack 32 = .ok (.aload_n 0, 1) := by decide +kernel
theorem dX1_takeBack_33 : decode cX1_takeBack 33 = .ok (.getfield 13, 3) := by decide +kernel
theorem dX1_takeBack_36 : decode cX1_takeBack 36 = .ok (.aload_n 0, 1) := by decide +kernel
theorem dX1_takeBack_37 : decode cX1_takeBack 37 = .ok (.getfield 26, 3) := by decide +kernel
theorem dX1_takeBack_40 : decode cX1_takeBack 40 = .ok (.iaload, 1) := by decide +kernel
theorem dX1_takeBack_41 : decode cX1_takeBack 41 = .ok (.aload_n 0, 1) := by decide +kernel
theorem dX1_takeBack_42 : decode cX1_takeBack 42 = .ok (.getfield 16, 3) := by decide +kernel
theorem dX1_takeBack_45 : decode cX1_takeBack 45 = .ok (.aload_n 0, 1) := by decide +kernel
theorem dX1_takeBack_46 : decode cX1_takeBack 46 = .ok (.getfield 26, 3) := by decide +kernel
theorem dX1_takeBack_49 : decode cX1_takeBack 49 = .ok (.iaload, 1) := by decide +kernel
theorem dX1_takeBack_50 : decode cX1_takeBack 50 = .ok (.invokevirtual 42, 3) := by decide +kernel
theorem dX1_takeBack_53 : decode cX1_takeBack 53 = .ok (.iconst 1, 1) := by decide +kernel
theorem dX1_takeBack_54 : decode cX1_takeBack 54 = .ok (.ireturn, 1) := by decide +kernel
theorem dX1_doAgain_0 : decode cX1_doAgain 0 = .ok (.aload_n 0, 1) := by decide +kernel
theorem dX1_doAgain_1 : decode cX1_doAgain 1 = .ok (.getfield 26, 3) := by decide +kernel
theorem dX1_doAgain_4 : decode cX1_doAgain 4 = .ok (.aload_n 0, 1) := by decide +kernel
theorem dX1_doAgain_5 : decode cX1_doAgain 5 = .ok (.getfield 33, 3) := by decide +kernel
theorem dX1_doAgain_8 : decode cX1_doAgain 8 = .ok (.if_icmp .ge 12, 3) := by decide +kernel
theorem dX1_doAgain_11 : decode cX1_doAgain 11 = .ok (.aload_n 0, 1) := by decide +kernel
theorem dX1_doAgain_12 : decode cX1_doAgain 12 = .ok (.getfield 26, 3) := by decide +kernel
theorem dX1_doAgain_15 : decode cX1_doAgain 15 = .ok (.bipush 40, 2) := by decide +kernel
theorem dX1_doAgain_17 : decode cX1_doAgain 17 = .ok (.if_icmp .lt 5, 3) := by decide +kernel
theorem dX1_doAgain_20 : decode cX1_doAgain 20 = .ok (.iconst 0, 1) := by decide +kernel
theorem dX1_doAgain_21 : decode cX1_doAgain 21 = .ok (.ireturn, 1) := by decide +kernel
theorem dX1_doAgain_22 : decode cX1_doAgain 22 = .ok (.aload_n 0, 1) := by decide +kernel
theorem dX1_doAgain_23 : decode cX1_doAgain 23 = .ok (.getfield 22, 3) := by decide +kernel
theorem dX1_doAgain_26 : decode cX1_doAgain 26 = .ok (.aload_n 0, 1) := by decide +kernel
theorem dX1_doAgain_27 : decode cX1_doAgain 27 = .ok (.getfield 9, 3) := by decide +kernel
theorem dX1_doAgain_30 : decode cX1_doAgain 30 = .ok (.aload_n 0, 1) := by decide +kernel
theorem dX1_doAgain_31 : decode cX1_doAgain 31 = .ok (.getfield 26, 3) := by decide +kernel
theorem dX1_doAgain_34 : decode cX1_doAgain 34 = .ok (.iaload, 1) := by decide +kernel
theorem dX1_doAgain_35 : decode cX1_doAgain 35 = .ok (.aload_n 0, 1) := by decide +kernel
theorem dX1_doAgain_36 : decode cX1_doAgain 36 = .ok (.getfield 13, 3) := by decide +kernel
theorem dX1_doAgain_39 : decode cX1_doAgain 39 = .ok (.aload_n 0, 1) := by decide +kernel
theorem dX1_doAgain_40 : decode cX1_doAgain 40 = .ok (.getfield 26, 3) := by decide +kernel
theorem dX1_doAgain_43 : decode cX1_doAgain 43 = .ok (.iaload, 1) := by decide +kernel
theorem dX1_doAgain_44 : decode cX1_doAgain 44 = .ok (.aload_n 0, 1) := by decide +kernel
theorem dX1_doAgain_45 : decode cX1_doAgain 45 = .ok (.getfield 19, 3) := by decide +kernel
theorem dX1_doAgain_48 : decode cX1_doAgain 48 = .ok (.aload_n 0, 1) := by decide +kernel
theorem dX1_doAgain_49 : decode cX1_doAgain 49 = .ok (.getfield 26, 3) := by decide +kernel
theorem dX1_doAgain_52 : decode cX1_doAgain 52 = .ok (.iaload, 1) := by decide +kernel
theorem dX1_doAgain_53 : decode cX1_doAgain 53 = .ok (.invokevirtual 42, 3) := by decide +kernel
theorem dX1_doAgain_56 : decode cX1_doAgain 56 = .ok (.aload_n 0, 1) := by decide +kernel
theorem dX1_doAgain_57 : decode cX1_doAgain 57 = .ok (.dup, 1) := by decide +kernel
theorem dX1_doAgain_58 : decode cX1_doAgain 58 = .ok (.getfield 26, 3) := by decide +kernel
theorem dX1_doAgain_61 : decode cX1_doAgain 61 = .ok (.iconst 1, 1) := by decide +kernel
theorem dX1_doAgain_62 : decode cX1_doAgain 62 = .ok (.iadd, 1) := by decide +kernel
theorem dX1_doAgain_63 : decode cX1_doAgain 63 = .ok (.putfield 26, 3) := by decide +kernel
theorem dX1_doAgain_66 : decode cX1_doAgain 66 = .ok (.iconst 1, 1) := by decide +kernel
theorem dX1_doAgain_67 : decode cX1_doAgain 67 = .ok (.ireturn, 1) := by decide +kernel
theorem dX2_init_0 : decode cX2_init 0 = .ok (.aload_n 0, 1) := by decide +kernel
theorem dX2_init_1 : decode cX2_init 1 = .ok (.invokespecial 3, 3) := by decide +kernel
theorem dX2_init_4 : decode cX2_init 4 = .ok (.aload_n 0, 1) := by decide +kernel
theorem dX2_init_5 : decode cX2_init 5 = .ok (.bipush 7, 2) := by decide +kernel
theorem dX2_init_7 : decode cX2_init 7 = .ok (.newarray .int, 2) := by decide +kernel
theorem dX2_init_9 : decode cX2_init 9 = .ok (.putfield 9, 3) := by decide +kernel
theorem dX2_init_12 : decode cX2_init 12 = .ok (.aload_n 0, 1) := by decide +kernel
theorem dX2_init_13 : decode cX2_init 13 = .ok (.bipush 10, 2) := by decide +kernel
theorem dX2_init_15 : decode cX2_init 15 = .ok (.newarray .int, 2) := by decide +kernel
theorem dX2_init_17 : decode cX2_init 17 = .ok (.putfield 15, 3) := by decide +kernel
theorem dX2_init_20 : decode cX2_init 20 = .ok (.aload_n 0, 1) := by decide +kernel
theorem dX2_init_21 : decode cX2_init 21 = .ok (.bipush 10, 2) := by decide +kernel
theorem dX2_init_23 : decode cX2_init 23 = .ok (.newarray .int, 2) := by decide +kernel
theorem dX2_init_25 : decode cX2_init 25 = .ok (.putfield 18, 3) := by decide +kernel
theorem dX2_init_28 : decode cX2_init 28 = .ok (.aload_n 0, 1) := by decide +kernel
theorem dX2_init_29 : decode cX2_init 29 = .ok (.bipush 6, 2) := by decide +kernel
theorem dX2_init_31 : decode cX2_init 31 = .ok (.newarray .int, 2) := by decide +kernel
theorem dX2_init_33 : decode cX2_init 33 = .ok (.putfield 21, 3) := by decide +kernel
theorem dX2_init_36 : decode cX2_init 36 = .ok (.aload_n 0, 1) := by decide +kernel
theorem dX2_init_37 : decode cX2_init 37 = .ok (.aload_n 1, 1) := by decide +kernel
theorem dX2_init_38 : decode cX2_init 38 = .ok (.putfield 24, 3) := by decide +kernel
theorem dX2_init_41 : decode cX2_init 41 = .ok (.return_, 1) := by decide +kernel
theorem dX2_take_0 : decode cX2_take 0 = .ok (.aload_n 1, 1) := by decide +kernel
theorem dX2_take_1 : decode cX2_take 1 = .ok (.getfield 9, 3) := by decide +kernel
theorem dX2_take_4 : decode cX2_take 4 = .ok (.iconst 0, 1) := by decide +kernel
theorem dX2_take_5 : decode cX2_take 5 = .ok (.aload_n 0, 1) := by decide +kernel
theorem dX2_take_6 : decode cX2_take 6 = .ok (.getfield 9, 3) := by decide +kernel
theorem dX2_take_9 : decode cX2_take 9 = .ok (.iconst 0, 1) := by decide +kernel
theorem dX2_take_10 : decode cX2_take 10 = .ok (.iconst 0, 1) := by decide +kernel
theorem dX2_take_11 : decode cX2_take 11 = .ok (.iload_n 2, 1) := by decide +kernel
theorem dX2_take_12 : decode cX2_take 12 = .ok (.bipush 7, 2) := by decide +kernel
theorem dX2_take_14 : decode cX2_take 14 = .ok (.invokestatic 28, 3) := by decide +kernel
theorem dX2_take_17 : decode cX2_take 17 = .ok (.invokestatic 34, 3) := by decide +kernel
theorem dX2_take_20 : decode cX2_take 20 = .ok (.invokestatic 37, 3) := by decide +kernel
theorem dX2_take_23 : decode cX2_take 23 = .ok (.aload_n 1, 1) := by decide +kernel
theorem dX2_take_24 : decode cX2_take 24 = .ok (.getfield 15, 3) := by decide +kernel
theorem dX2_take_27 : decode cX2_take 27 = .ok (.iconst 0, 1) := by decide +kernel
theorem dX2_take_28 : decode cX2_take 28 = .ok (.aload_n 0, 1) := by decide +kernel
theorem dX2_take_29 : decode cX2_take 29 = .ok (.getfield 15, 3) := by decide +kernel
theorem dX2_take_32 : decode cX2_take 32 = .ok (.iconst 0, 1) := by decide +kernel
theorem dX2_take_33 : decode cX2_take 33 = .ok (.iconst 0, 1) := by decide +kernel
theorem dX2_take_34 : decode cX2_take 34 = .ok (.iload_n 3, 1) := by decide +kernel
theorem dX2_take_35 : decode cX2_take 35 = .ok (.bipush 10, 2) := by decide +kernel
theorem dX2_take_37 : decode cX2_take 37 = .ok (.invokestatic 28, 3) := by decide +kernel
theorem dX2_take_40 : decode cX2_take 40 = .ok (.invokestatic 34, 3) := by decide +kernel
theorem dX2_take_43 : decode cX2_take 43 = .ok (.invokestatic 37, 3) := by decide +kernel
theorem dX2_take_46 : decode cX2_take 46 = .ok (.aload_n 1, 1) := by decide +kernel
theorem dX2_take_47 : decode cX2_take 47 = .ok (.getfield 18, 3) := by decide +kernel
theorem dX2_take_50 : decode cX2_take 50 = .ok (.iconst 0, 1) := by decide +kernel
theorem dX2_take_51 : decode cX2_take 51 = .ok (.aload_n 0, 1) := by decide +kernel
theorem dX2_take_52 : decode cX2_take 52 = .ok (.getfield 18, 3) := by decide +kernel
theorem dX2_take_55 : decode cX2_take 55 = .ok (.iconst 0, 1) := by decide +kernel
theorem dX2_take_56 : decode cX2_take 56 = .ok (.iconst 0, 1) := by decide +kernel
theorem dX2_take_57 : decode cX2_take 57 = .ok (.iload_n 3, 1) := by decide +kernel
theorem dX2_take_58 : decode cX2_take 58 = .ok (.bipush 10, 2) := by decide +kernel
theorem dX2_take_60 : decode cX2_take 60 = .ok (.invokestatic 28, 3) := by decide +kernel
theorem dX2_take_63 : decode cX2_take 63 = .ok (.invokestatic 34, 3) := by decide +kernel
theorem dX2_take_66 : decode cX2_take 66 = .ok (.invokestatic 37, 3) := by decide +kernel
theorem dX2_take_69 : decode cX2_take 69 = .ok (.aload_n 1, 1) := by decide +kernel
theorem dX2_take_70 : decode cX2_take 70 = .ok (.getfield 21, 3) := by decide +kernel
theorem dX2_take_73 : decode cX2_take 73 = .ok (.iconst 0, 1) := by decide +kernel
theorem dX2_take_74 : decode cX2_take 74 = .ok (.aload_n 0, 1) := by decide +kernel
theorem dX2_take_75 : decode cX2_take 75 = .ok (.getfield 21, 3) := by decide +kernel
theorem dX2_take_78 : decode cX2_take 78 = .ok (.iconst 0, 1) := by decide +kernel
theorem dX2_take_79 : decode cX2_take 79 = .ok (.bipush 6, 2) := by decide +kernel
theorem dX2_take_81 : decode cX2_take 81 = .ok (.invokestatic 37, 3) := by decide +kernel
theorem dX2_take_84 : decode cX2_take 84 = .ok (.aload_n 0, 1) := by decide +kernel
theorem dX2_take_85 : decode cX2_take 85 = .ok (.aload_n 1, 1) := by decide +kernel
theorem dX2_take_86 : decode cX2_take 86 = .ok (.getfield 43, 3) := by decide +kernel
theorem dX2_take_89 : decode cX2_take 89 = .ok (.putfield 43, 3) := by decide +kernel
theorem dX2_take_92 : decode cX2_take 92 = .ok (.aload_n 0, 1) := by decide +kernel
theorem dX2_take_93 : decode cX2_take 93 = .ok (.aload_n 1, 1) := by decide +kernel
theorem dX2_take_94 : decode cX2_take 94 = .ok (.getfield 47, 3) := by decide +kernel
theorem dX2_take_97 : decode cX2_take 97 = .ok (.putfield 47, 3) := by decide +kernel
theorem dX2_take_100 : decode cX2_take 100 = .ok (.return_, 1) := by decide +kernel
theorem dX2_houseOfJoy_0 : decode cX2_houseOfJoy 0 = .ok (.aload_n 0, 1) := by decide +kernel
theorem dX2_houseOfJoy_1 : decode cX2_houseOfJoy 1 = .ok (.getfield 24, 3) := by decide +kernel
theorem dX2_houseOfJoy_4 : decode cX2_houseOfJoy 4 = .ok (.getfield 50, 3) := by decide +kernel
theorem dX2_houseOfJoy_7 : decode cX2_houseOfJoy 7 = .ok (.iload_n 1, 1) := by decide +kernel
theorem dX2_houseOfJoy_8 : decode cX2_houseOfJoy 8 = .ok (.iaload, 1) := by decide +kernel
theorem dX2_houseOfJoy_9 : decode cX2_houseOfJoy 9 = .ok (.istore_n 2, 1) := by decide +kernel
theorem dX2_houseOfJoy_10 : decode cX2_houseOfJoy 10 = .ok (.iload_n 2, 1) := by decide +kernel
theorem dX2_houseOfJoy_11 : decode cX2_houseOfJoy 11 = .ok (.ifCond .lt 18, 3) := by decide +kernel
theorem dX2_houseOfJoy_14 : decode cX2_houseOfJoy 14 = .ok (.iload_n 2, 1) := by decide +kernel
theorem dX2_houseOfJoy_15 : decode cX2_houseOfJoy 15 = .ok (.bipush 7, 2) := by decide +kernel
theorem dX2_houseOfJoy_17 : decode cX2_houseOfJoy 17 = .ok (.if_icmp .ge 12, 3) := by decide +kernel
theorem dX2_houseOfJoy_20 : decode cX2_houseOfJoy 20 = .ok (.aload_n 0, 1) := by decide +kernel
theorem dX2_houseOfJoy_21 : decode cX2_houseOfJoy 21 = .ok (.getfield 9, 3) := by decide +kernel
theorem dX2_houseOfJoy_24 : decode cX2_houseOfJoy 24 = .ok (.iload_n 2, 1) := by decide +kernel
theorem dX2_houseOfJoy_25 : decode cX2_houseOfJoy 25 = .ok (.iaload, 1) := by decide +kernel
theorem dX2_houseOfJoy_26 : decode cX2_houseOfJoy 26 = .ok (.goto 4, 3) := by decide +kernel
theorem dX2_houseOfJoy_29 : decode cX2_houseOfJoy 29 = .ok (.iconst 0, 1) := by decide +kernel
theorem dX2_houseOfJoy_30 : decode cX2_houseOfJoy 30 = .ok (.ireturn, 1) := by decide +kernel
theorem dX2_sideOfJoy_0 : decode cX2_sideOfJoy 0 = .ok (.aload_n 0, 1) := by decide +kernel
theorem dX2_sideOfJoy_1 : decode cX2_sideOfJoy 1 = .ok (.iload_n 1, 1) := by decide +kernel
theorem dX2_sideOfJoy_2 : decode cX2_sideOfJoy 2 = .ok (.invokevirtual 55, 3) := by decide +kernel
theorem dX2_sideOfJoy_5 : decode cX2_sideOfJoy 5 = .ok (.iconst 2, 1) := by decide +kernel
theorem dX2_sideOfJoy_6 : decode cX2_sideOfJoy 6 = .ok (.irem, 1) := by decide +kernel
theorem dX2_sideOfJoy_7 : decode cX2_sideOfJoy 7 = .ok (.ireturn, 1) := by decide +kernel
theorem dX2_runs_0 : decode cX2_runs 0 = .ok (.aload_n 0, 1) := by decide +kernel
theorem dX2_runs_1 : decode cX2_runs 1 = .ok (.getfield 18, 3) := by decide +kernel
theorem dX2_runs_4 : decode cX2_runs 4 = .ok (.iload_n 1, 1) := by decide +kernel
theorem dX2_runs_5 : decode cX2_runs 5 = .ok (.iaload, 1) := by decide +kernel
theorem dX2_runs_6 : decode cX2_runs 6 = .ok (.ifCond .ne 34, 3) := by decide +kernel
theorem dX2_runs_9 : decode cX2_runs 9 = .ok (.aload_n 0, 1) := by decide +kernel
theorem dX2_runs_10 : decode cX2_runs 10 = .ok (.getfield 15, 3) := by decide +kernel
theorem dX2_runs_13 : decode cX2_runs 13 = .ok (.iload_n 1, 1) := by decide +kernel
theorem dX2_runs_14 : decode cX2_runs 14 = .ok (.iaload, 1) := by decide +kernel
theorem dX2_runs_15 : decode cX2_runs 15 = .ok (.ifCond .le 25, 3) := by decide +kernel
theorem dX2_runs_18 : decode cX2_runs 18 = .ok (.aload_n 0, 1) := by decide +kernel
theorem dX2_runs_19 : decode cX2_runs 19 = .ok (.getfield 15, 3) := by decide +kernel
theorem dX2_runs_22 : decode cX2_runs 22 = .ok (.iload_n 1, 1) := by decide +kernel
theorem dX2_runs_23 : decode cX2_runs 23 = .ok (.iaload, 1) := by decide +kernel
theorem dX2_runs_24 : decode cX2_runs 24 = .ok (.aload_n 0, 1) := by decide +kernel
theorem dX2_runs_25 : decode cX2_runs 25 = .ok (.getfield 24, 3) := by decide +kernel
theorem dX2_runs_28 : decode cX2_runs 28 = .ok (.getfield 59, 3) := by decide +kernel
theorem dX2_runs_31 : decode cX2_runs 31 = .ok (.iload_n 1, 1) := by decide +kernel
theorem dX2_runs_32 : decode cX2_runs 32 = .ok (.iaload, 1) := by decide +kernel
theorem dX2_runs_33 : decode cX2_runs 33 = .ok (.if_icmp .ge 7, 3) := by decide +kernel
theorem dX2_runs_36 : decode cX2_runs 36 = .ok (.iconst 1, 1) := by decide +kernel
theorem dX2_runs_37 : decode cX2_runs 37 = .ok (.goto 4, 3) := by decide +kernel
theorem dX2_runs_40 : decode cX2_runs 40 = .ok (.iconst 0, 1) := by decide +kernel
theorem dX2_runs_41 : decode cX2_runs 41 = .ok (.ireturn, 1) := by decide +kernel
theorem dX2_waits_0 : decode cX2_waits 0 = .ok (.aload_n 0, 1) := by decide +kernel
theorem dX2_waits_1 : decode cX2_waits 1 = .ok (.getfield 18, 3) := by decide +kernel
theorem dX2_waits_4 : decode cX2_waits 4 = .ok (.iload_n 1, 1) := by decide +kernel
theorem dX2_waits_5 : decode cX2_waits 5 = .ok (.iaload, 1) := by decide +kernel
theorem dX2_waits_6 : decode cX2_waits 6 = .ok (.ifCond .ne 32, 3) := by decide +kernel
theorem dX2_waits_9 : decode cX2_waits 9 = .ok (.aload_n 0, 1) := by decide +kernel
theorem dX2_waits_10 : decode cX2_waits 10 = .ok (.getfield 15, 3) := by decide +kernel
theorem dX2_waits_13 : decode cX2_waits 13 = .ok (.iload_n 1, 1) := by decide +kernel
theorem dX2_waits_14 : decode cX2_waits 14 = .ok (.iaload, 1) := by decide +kernel
theorem dX2_waits_15 : decode cX2_waits 15 = .ok (.ifCond .ne 23, 3) := by decide +kernel
theorem dX2_waits_18 : decode cX2_waits 18 = .ok (.aload_n 0, 1) := by decide +kernel
theorem dX2_waits_19 : decode cX2_waits 19 = .ok (.getfield 47, 3) := by decide +kernel
theorem dX2_waits_22 : decode cX2_waits 22 = .ok (.aload_n 0, 1) := by decide +kernel
theorem dX2_waits_23 : decode cX2_waits 23 = .ok (.getfield 24, 3) := by decide +kernel
theorem dX2_waits_26 : decode cX2_waits 26 = .ok (.getfield 62, 3) := by decide +kernel
theorem dX2_waits_29 : decode cX2_waits 29 = .ok (.iload_n 1, 1) := by decide +kernel
theorem dX2_waits_30 : decode cX2_waits 30 = .ok (.iaload, 1) := by decide +kernel
theorem dX2_waits_31 : decode cX2_waits 31 = .ok (.if_icmp .lt 7, 3) := by decide +kernel
theorem dX2_waits_34 : decode cX2_waits 34 = .ok (.iconst 1, 1) := by decide +kernel
theorem dX2_waits_35 : decode cX2_waits 35 = .ok (.goto 4, 3) := by decide +kernel
theorem dX2_waits_38 : decode cX2_waits 38 = .ok (.iconst 0, 1) := by decide +kernel
theorem dX2_waits_39 : decode cX2_waits 39 = .ok (.ireturn, 1) := by decide +kernel
theorem dX2_had_0 : decode cX2_had 0 = .ok (.aload_n 0, 1) := by decide +kernel
theorem dX2_had_1 : decode cX2_had 1 = .ok (.getfield 18, 3) := by decide +kernel
theorem dX2_had_4 : decode cX2_had 4 = .ok (.iload_n 1, 1) := by decide +kernel
theorem dX2_had_5 : decode cX2_had 5 = .ok (.iaload, 1) := by decide +kernel
theorem dX2_had_6 : decode cX2_had 6 = .ok (.ifCond .ne 25, 3) := by decide +kernel
theorem dX2_had_9 : decode cX2_had 9 = .ok (.aload_n 0, 1) := by decide +kernel
theorem dX2_had_10 : decode cX2_had 10 = .ok (.getfield 15, 3) := by decide +kernel
theorem dX2_had_13 : decode cX2_had 13 = .ok (.iload_n 1, 1) := by decide +kernel
theorem dX2_had_14 : decode cX2_had 14 = .ok (.iaload, 1) := by decide +kernel
theorem dX2_had_15 : decode cX2_had 15 = .ok (.aload_n 0, 1) := by decide +kernel
theorem dX2_had_16 : decode cX2_had 16 = .ok (.getfield 24, 3) := by decide +kernel
theorem dX2_had_19 : decode cX2_had 19 = .ok (.getfield 59, 3) := by decide +kernel
theorem dX2_had_22 : decode cX2_had 22 = .ok (.iload_n 1, 1) := by decide +kernel
theorem dX2_had_23 : decode cX2_had 23 = .ok (.iaload, 1) := by decide +kernel
theorem dX2_had_24 : decode cX2_had 24 = .ok (.if_icmp .lt 7, 3) := by decide +kernel
theorem dX2_had_27 : decode cX2_had 27 = .ok (.iconst 1, 1) := by decide +kernel
theorem dX2_had_28 : decode cX2_had 28 = .ok (.goto 4, 3) := by decide +kernel
theorem dX2_had_31 : decode cX2_had 31 = .ok (.iconst 0, 1) := by decide +kernel
theorem dX2_had_32 : decode cX2_had 32 = .ok (.ireturn, 1) := by decide +kernel
theorem dX2_isIn_0 : decode cX2_isIn 0 = .ok (.iload_n 2, 1) := by decide +kernel
theorem dX2_isIn_1 : decode cX2_isIn 1 = .ok (.tableswitch 45 0 2 #[27, 33, 39], 27) := by decide +kernel
theorem dX2_isIn_28 : decode cX2_isIn 28 = .ok (.aload_n 0, 1) := by decide +kernel
theorem dX2_isIn_29 : decode cX2_isIn 29 = .ok (.iload_n 1, 1) := by decide +kernel
theorem dX2_isIn_30 : decode cX2_isIn 30 = .ok (.invokevirtual 65, 3) := by decide +kernel
theorem dX2_isIn_33 : decode cX2_isIn 33 = .ok (.ireturn, 1) := by decide +kernel
theorem dX2_isIn_34 : decode cX2_isIn 34 = .ok (.aload_n 0, 1) := by decide +kernel
theorem dX2_isIn_35 : decode cX2_isIn 35 = .ok (.iload_n 1, 1) := by decide +kernel
theorem dX2_isIn_36 : decode cX2_isIn 36 = .ok (.invokevirtual 69, 3) := by decide +kernel
theorem dX2_isIn_39 : decode cX2_isIn 39 = .ok (.ireturn, 1) := by decide +kernel
theorem dX2_isIn_40 : decode cX2_isIn 40 = .ok (.aload_n 0, 1) := by decide +kernel
theorem dX2_isIn_41 : decode cX2_isIn 41 = .ok (.iload_n 1, 1) := by decide +kernel
theorem dX2_isIn_42 : decode cX2_isIn 42 = .ok (.invokevirtual 72, 3) := by decide +kernel
theorem dX2_isIn_45 : decode cX2_isIn 45 = .ok (.ireturn, 1) := by decide +kernel
theorem dX2_isIn_46 : decode cX2_isIn 46 = .ok (.aload_n 0, 1) := by decide +kernel
theorem dX2_isIn_47 : decode cX2_isIn 47 = .ok (.getfield 18, 3) := by decide +kernel
theorem dX2_isIn_50 : decode cX2_isIn 50 = .ok (.iload_n 1, 1) := by decide +kernel
theorem dX2_isIn_51 : decode cX2_isIn 51 = .ok (.iaload, 1) := by decide +kernel
theorem dX2_isIn_52 : decode cX2_isIn 52 = .ok (.ifCond .eq 7, 3) := by decide +kernel
theorem dX2_isIn_55 : decode cX2_isIn 55 = .ok (.iconst 1, 1) := by decide +kernel
theorem dX2_isIn_56 : decode cX2_isIn 56 = .ok (.goto 4, 3) := by decide +kernel
theorem dX2_isIn_59 : decode cX2_isIn 59 = .ok (.iconst 0, 1) := by decide +kernel
theorem dX2_isIn_60 : decode cX2_isIn 60 = .ok (.ireturn, 1) := by decide +kernel
theorem dX2_joysThat_0 : decode cX2_joysThat 0 = .ok (.iconst 0, 1) := by decide +kernel
theorem dX2_joysThat_1 : decode cX2_joysThat 1 = .ok (.istore_n 2, 1) := by decide +kernel
theorem dX2_joysThat_2 : decode cX2_joysThat 2 = .ok (.iconst 0, 1) := by decide +kernel
theorem dX2_joysThat_3 : decode cX2_joysThat 3 = .ok (.istore_n 3, 1) := by decide +kernel
theorem dX2_joysThat_4 : decode cX2_joysThat 4 = .ok (.iload_n 3, 1) := by decide +kernel
theorem dX2_joysThat_5 : decode cX2_joysThat 5 = .ok (.aload_n 0, 1) := by decide +kernel
theorem dX2_joysThat_6 : decode cX2_joysThat 6 = .ok (.getfield 24, 3) := by decide +kernel
theorem dX2_joysThat_9 : decode cX2_joysThat 9 = .ok (.getfield 75, 3) := by decide +kernel
theorem dX2_joysThat_12 : decode cX2_joysThat 12 = .ok (.if_icmp .ge 24, 3) := by decide +kernel
theorem dX2_joysThat_15 : decode cX2_joysThat 15 = .ok (.aload_n 0, 1) := by decide +kernel
theorem dX2_joysThat_16 : decode cX2_joysThat 16 = .ok (.iload_n 3, 1) := by decide +kernel
theorem dX2_joysThat_17 : decode cX2_joysThat 17 = .ok (.iload_n 1, 1) := by decide +kernel
theorem dX2_joysThat_18 : decode cX2_joysThat 18 = .ok (.invokevirtual 78, 3) := by decide +kernel
theorem dX2_joysThat_21 : decode cX2_joysThat 21 = .ok (.ifCond .eq 9, 3) := by decide +kernel
theorem dX2_joysThat_24 : decode cX2_joysThat 24 = .ok (.iload_n 2, 1) := by decide +kernel
theorem dX2_joysThat_25 : decode cX2_joysThat 25 = .ok (.iconst 1, 1) := by decide +kernel
theorem dX2_joysThat_26 : decode cX2_joysThat 26 = .ok (.iload_n 3, 1) := by decide +kernel
theorem dX2_joysThat_27 : decode cX2_joysThat 27 = .ok (.ishl, 1) := by decide +kernel
theorem dX2_joysThat_28 : decode cX2_joysThat 28 = .ok (.ior, 1) := by decide +kernel
theorem dX2_joysThat_29 : decode cX2_joysThat 29 = .ok (.istore_n 2, 1) := by decide +kernel
theorem dX2_joysThat_30 : decode cX2_joysThat 30 = .ok (.iinc 3 1, 3) := by decide +kernel
theorem dX2_joysThat_33 : decode cX2_joysThat 33 = .ok (.goto (-29), 3) := by decide +kernel
theorem dX2_joysThat_36 : decode cX2_joysThat 36 = .ok (.iload_n 2, 1) := by decide +kernel
theorem dX2_joysThat_37 : decode cX2_joysThat 37 = .ok (.ireturn, 1) := by decide +kernel
theorem dX2_isGlad_0 : decode cX2_isGlad 0 = .ok (.aload_n 0, 1) := by decide +kernel
theorem dX2_isGlad_1 : decode cX2_isGlad 1 = .ok (.getfield 9, 3) := by decide +kernel
theorem dX2_isGlad_4 : decode cX2_isGlad 4 = .ok (.iload_n 1, 1) := by decide +kernel
theorem dX2_isGlad_5 : decode cX2_isGlad 5 = .ok (.iaload, 1) := by decide +kernel
theorem dX2_isGlad_6 : decode cX2_isGlad 6 = .ok (.iconst 2, 1) := by decide +kernel
theorem dX2_isGlad_7 : decode cX2_isGlad 7 = .ok (.irem, 1) := by decide +kernel
theorem dX2_isGlad_8 : decode cX2_isGlad 8 = .ok (.aload_n 0, 1) := by decide +kernel
theorem dX2_isGlad_9 : decode cX2_isGlad 9 = .ok (.getfield 43, 3) := by decide +kernel
theorem dX2_isGlad_12 : decode cX2_isGlad 12 = .ok (.if_icmp .eq 5, 3) := by decide +kernel
theorem dX2_isGlad_15 : decode cX2_isGlad 15 = .ok (.iconst 0, 1) := by decide +kernel
theorem dX2_isGlad_16 : decode cX2_isGlad 16 = .ok (.ireturn, 1) := by decide +kernel
theorem dX2_isGlad_17 : decode cX2_isGlad 17 = .ok (.iconst 0, 1) := by decide +kernel
theorem dX2_isGlad_18 : decode cX2_isGlad 18 = .ok (.istore_n 2, 1) := by decide +kernel
theorem dX2_isGlad_19 : decode cX2_isGlad 19 = .ok (.iload_n 2, 1) := by decide +kernel
theorem dX2_isGlad_20 : decode cX2_isGlad 20 = .ok (.aload_n 0, 1) := by decide +kernel
theorem dX2_isGlad_21 : decode cX2_isGlad 21 = .ok (.getfield 24, 3) := by decide +kernel
theorem dX2_isGlad_24 : decode cX2_isGlad 24 = .ok (.getfield 75, 3) := by decide +kernel
theorem dX2_isGlad_27 : decode cX2_isGlad 27 = .ok (.if_icmp .ge 32, 3) := by decide +kernel
theorem dX2_isGlad_30 : decode cX2_isGlad 30 = .ok (.aload_n 0, 1) := by decide +kernel
theorem dX2_isGlad_31 : decode cX2_isGlad 31 = .ok (.getfield 24, 3) := by decide +kernel
theorem dX2_isGlad_34 : decode cX2_isGlad 34 = .ok (.getfield 50, 3) := by decide +kernel
theorem dX2_isGlad_37 : decode cX2_isGlad 37 = .ok (.iload_n 2, 1) := by decide +kernel
theorem dX2_isGlad_38 : decode cX2_isGlad 38 = .ok (.iaload, 1) := by decide +kernel
theorem dX2_isGlad_39 : decode cX2_isGlad 39 = .ok (.iload_n 1, 1) := by decide +kernel
theorem dX2_isGlad_40 : decode cX2_isGlad 40 = .ok (.if_icmp .ne 13, 3) := by decide +kernel
theorem dX2_isGlad_43 : decode cX2_isGlad 43 = .ok (.aload_n 0, 1) := by decide +kernel
theorem dX2_isGlad_44 : decode cX2_isGlad 44 = .ok (.iload_n 2, 1) := by decide +kernel
theorem dX2_isGlad_45 : decode cX2_isGlad 45 = .ok (.invokevirtual 69, 3) := by decide +kernel
theorem dX2_isGlad_48 : decode cX2_isGlad 48 = .ok (.ifCond .eq 5, 3) := by decide +kernel
theorem dX2_isGlad_51 : decode cX2_isGlad 51 = .ok (.iconst 1, 1) := by decide +kernel
theorem dX2_isGlad_52 : decode cX2_isGlad 52 = .ok (.ireturn, 1) := by decide +kernel
theorem dX2_isGlad_53 : decode cX2_isGlad 53 = .ok (.iinc 2 1, 3) := by decide +kernel
theorem dX2_isGlad_56 : decode cX2_isGlad 56 = .ok (.goto (-37), 3) := by decide +kernel
theorem dX2_isGlad_59 : decode cX2_isGlad 59 = .ok (.iconst 0, 1) := by decide +kernel
theorem dX2_isGlad_60 : decode cX2_isGlad 60 = .ok (.ireturn, 1) := by decide +kernel
theorem dX2_gladPeople_0 : decode cX2_gladPeople 0 = .ok (.iconst 0, 1) := by decide +kernel
theorem dX2_gladPeople_1 : decode cX2_gladPeople 1 = .ok (.istore_n 1, 1) := by decide +kernel
theorem dX2_gladPeople_2 : decode cX2_gladPeople 2 = .ok (.iconst 0, 1) := by decide +kernel
theorem dX2_gladPeople_3 : decode cX2_gladPeople 3 = .ok (.istore_n 2, 1) := by decide +kernel
theorem dX2_gladPeople_4 : decode cX2_gladPeople 4 = .ok (.iload_n 2, 1) := by decide +kernel
theorem dX2_gladPeople_5 : decode cX2_gladPeople 5 = .ok (.aload_n 0, 1) := by decide +kernel
theorem dX2_gladPeople_6 : decode cX2_gladPeople 6 = .ok (.getfield 24, 3) := by decide +kernel
theorem dX2_gladPeople_9 : decode cX2_gladPeople 9 = .ok (.getfield 82, 3) := by decide +kernel
theorem dX2_gladPeople_12 : decode cX2_gladPeople 12 = .ok (.if_icmp .ge 23, 3) := by decide +kernel
theorem dX2_gladPeople_15 : decode cX2_gladPeople 15 = .ok (.aload_n 0, 1) := by decide +kernel
theorem dX2_gladPeople_16 : decode cX2_gladPeople 16 = .ok (.iload_n 2, 1) := by decide +kernel
theorem dX2_gladPeople_17 : decode cX2_gladPeople 17 = .ok (.invokevirtual 85, 3) := by decide +kernel
theorem dX2_gladPeople_20 : decode cX2_gladPeople 20 = .ok (.ifCond .eq 9, 3) := by decide +kernel
theorem dX2_gladPeople_23 : decode cX2_gladPeople 23 = .ok (.iload_n 1, 1) := by decide +kernel
theorem dX2_gladPeople_24 : decode cX2_gladPeople 24 = .ok (.iconst 1, 1) := by decide +kernel
theorem dX2_gladPeople_25 : decode cX2_gladPeople 25 = .ok (.iload_n 2, 1) := by decide +kernel
theorem dX2_gladPeople_26 : decode cX2_gladPeople 26 = .ok (.ishl, 1) := by decide +kernel
theorem dX2_gladPeople_27 : decode cX2_gladPeople 27 = .ok (.ior, 1) := by decide +kernel
theorem dX2_gladPeople_28 : decode cX2_gladPeople 28 = .ok (.istore_n 1, 1) := by decide +kernel
theorem dX2_gladPeople_29 : decode cX2_gladPeople 29 = .ok (.iinc 2 1, 3) := by decide +kernel
theorem dX2_gladPeople_32 : decode cX2_gladPeople 32 = .ok (.goto (-28), 3) := by decide +kernel
theorem dX2_gladPeople_35 : decode cX2_gladPeople 35 = .ok (.iload_n 1, 1) := by decide +kernel
theorem dX2_gladPeople_36 : decode cX2_gladPeople 36 = .ok (.ireturn, 1) := by decide +kernel
theorem dX2_worthOfHad_0 : decode cX2_worthOfHad 0 = .ok (.iconst 0, 1) := by decide +kernel
theorem dX2_worthOfHad_1 : decode cX2_worthOfHad 1 = .ok (.istore_n 1, 1) := by decide +kernel
theorem dX2_worthOfHad_2 : decode cX2_worthOfHad 2 = .ok (.iconst 0, 1) := by decide +kernel
theorem dX2_worthOfHad_3 : decode cX2_worthOfHad 3 = .ok (.istore_n 2, 1) := by decide +kernel
theorem dX2_worthOfHad_4 : decode cX2_worthOfHad 4 = .ok (.iload_n 2, 1) := by decide +kernel
theorem dX2_worthOfHad_5 : decode cX2_worthOfHad 5 = .ok (.aload_n 0, 1) := by decide +kernel
theorem dX2_worthOfHad_6 : decode cX2_worthOfHad 6 = .ok (.getfield 24, 3) := by decide +kernel
theorem dX2_worthOfHad_9 : decode cX2_worthOfHad 9 = .ok (.getfield 75, 3) := by decide +kernel
theorem dX2_worthOfHad_12 : decode cX2_worthOfHad 12 = .ok (.if_icmp .ge 29, 3) := by decide +kernel
theorem dX2_worthOfHad_15 : decode cX2_worthOfHad 15 = .ok (.aload_n 0, 1) := by decide +kernel
theorem dX2_worthOfHad_16 : decode cX2_worthOfHad 16 = .ok (.iload_n 2, 1) := by decide +kernel
theorem dX2_worthOfHad_17 : decode cX2_worthOfHad 17 = .ok (.invokevirtual 72, 3) := by decide +kernel
theorem dX2_worthOfHad_20 : decode cX2_worthOfHad 20 = .ok (.ifCond .eq 15, 3) := by decide +kernel
theorem dX2_worthOfHad_23 : decode cX2_worthOfHad 23 = .ok (.iload_n 1, 1) := by decide +kernel
theorem dX2_worthOfHad_24 : decode cX2_worthOfHad 24 = .ok (.aload_n 0, 1) := by decide +kernel
theorem dX2_worthOfHad_25 : decode cX2_worthOfHad 25 = .ok (.getfield 24, 3) := by decide +kernel
theorem dX2_worthOfHad_28 : decode cX2_worthOfHad 28 = .ok (.getfield 88, 3) := by decide +kernel
theorem dX2_worthOfHad_31 : decode cX2_worthOfHad 31 = .ok (.iload_n 2, 1) := by decide +kernel
theorem dX2_worthOfHad_32 : decode cX2_worthOfHad 32 = .ok (.iaload, 1) := by decide +kernel
theorem dX2_worthOfHad_33 : decode cX2_worthOfHad 33 = .ok (.iadd, 1) := by decide +kernel
theorem dX2_worthOfHad_34 : decode cX2_worthOfHad 34 = .ok (.istore_n 1, 1) := by decide +kernel
theorem dX2_worthOfHad_35 : decode cX2_worthOfHad 35 = .ok (.iinc 2 1, 3) := by decide +kernel
theorem dX2_worthOfHad_38 : decode cX2_worthOfHad 38 = .ok (.goto (-34), 3) := by decide +kernel
theorem dX2_worthOfHad_41 : decode cX2_worthOfHad 41 = .ok (.iload_n 1, 1) := by decide +kernel
theorem dX2_worthOfHad_42 : decode cX2_worthOfHad 42 = .ok (.ireturn, 1) := by decide +kernel
theorem dX2_worthOfHadBy_0 : decode cX2_worthOfHadBy 0 = .ok (.iconst 0, 1) := by decide +kernel
theorem dX2_worthOfHadBy_1 : decode cX2_worthOfHadBy 1 = .ok (.istore_n 2, 1) := by decide +kernel
theorem dX2_worthOfHadBy_2 : decode cX2_worthOfHadBy 2 = .ok (.iconst 0, 1) := by decide +kernel
theorem dX2_worthOfHadBy_3 : decode cX2_worthOfHadBy 3 = .ok (.istore_n 3, 1) := by decide +kernel
theorem dX2_worthOfHadBy_4 : decode cX2_worthOfHadBy 4 = .ok (.iload_n 3, 1) := by decide +kernel
theorem dX2_worthOfHadBy_5 : decode cX2_worthOfHadBy 5 = .ok (.aload_n 0, 1) := by decide +kernel
theorem dX2_worthOfHadBy_6 : decode cX2_worthOfHadBy 6 = .ok (.getfield 24, 3) := by decide +kernel
theorem dX2_worthOfHadBy_9 : decode cX2_worthOfHadBy 9 = .ok (.getfield 75, 3) := by decide +kernel
theorem dX2_worthOfHadBy_12 : decode cX2_worthOfHadBy 12 = .ok (.if_icmp .ge 42, 3) := by decide +kernel
theorem dX2_worthOfHadBy_15 : decode cX2_worthOfHadBy 15 = .ok (.aload_n 0, 1) := by decide +kernel
theorem dX2_worthOfHadBy_16 : decode cX2_worthOfHadBy 16 = .ok (.getfield 24, 3) := by decide +kernel
theorem dX2_worthOfHadBy_19 : decode cX2_worthOfHadBy 19 = .ok (.getfield 50, 3) := by decide +kernel
theorem dX2_worthOfHadBy_22 : decode cX2_worthOfHadBy 22 = .ok (.iload_n 3, 1) := by decide +kernel
theorem dX2_worthOfHadBy_23 : decode cX2_worthOfHadBy 23 = .ok (.iaload, 1) := by decide +kernel
theorem dX2_worthOfHadBy_24 : decode cX2_worthOfHadBy 24 = .ok (.iload_n 1, 1) := by decide +kernel
theorem dX2_worthOfHadBy_25 : decode cX2_worthOfHadBy 25 = .ok (.if_icmp .ne 23, 3) := by decide +kernel
theorem dX2_worthOfHadBy_28 : decode cX2_worthOfHadBy 28 = .ok (.aload_n 0, 1) := by decide +kernel
theorem dX2_worthOfHadBy_29 : decode cX2_worthOfHadBy 29 = .ok (.iload_n 3, 1) := by decide +kernel
theorem dX2_worthOfHadBy_30 : decode cX2_worthOfHadBy 30 = .ok (.invokevirtual 72, 3) := by decide +kernel
theorem dX2_worthOfHadBy_33 : decode cX2_worthOfHadBy 33 = .ok (.ifCond .eq 15, 3) := by decide +kernel
theorem dX2_worthOfHadBy_36 : decode cX2_worthOfHadBy 36 = .ok (.iload_n 2, 1) := by decide +kernel
theorem dX2_worthOfHadBy_37 : decode cX2_worthOfHadBy 37 = .ok (.aload_n 0, 1) := by decide +kernel
theorem dX2_worthOfHadBy_38 : decode cX2_worthOfHadBy 38 = .ok (.getfield 24, 3) := by decide +kernel
theorem dX2_worthOfHadBy_41 : decode cX2_worthOfHadBy 41 = .ok (.getfield 88, 3) := by decide +kernel
theorem dX2_worthOfHadBy_44 : decode cX2_worthOfHadBy 44 = .ok (.iload_n 3, 1) := by decide +kernel
theorem dX2_worthOfHadBy_45 : decode cX2_worthOfHadBy 45 = .ok (.iaload, 1) := by decide +kernel
theorem dX2_worthOfHadBy_46 : decode cX2_worthOfHadBy 46 = .ok (.iadd, 1) := by decide +kernel
theorem dX2_worthOfHadBy_47 : decode cX2_worthOfHadBy 47 = .ok (.istore_n 2, 1) := by decide +kernel
theorem dX2_worthOfHadBy_48 : decode cX2_worthOfHadBy 48 = .ok (.iinc 3 1, 3) := by decide +kernel
theorem dX2_worthOfHadBy_51 : decode cX2_worthOfHadBy 51 = .ok (.goto (-47), 3) := by decide +kernel
theorem dX2_worthOfHadBy_54 : decode cX2_worthOfHadBy 54 = .ok (.iload_n 2, 1) := by decide +kernel
theorem dX2_worthOfHadBy_55 : decode cX2_worthOfHadBy 55 = .ok (.ireturn, 1) := by decide +kernel
theorem dX2_worthOfLost_0 : decode cX2_worthOfLost 0 = .ok (.iconst 0, 1) := by decide +kernel
theorem dX2_worthOfLost_1 : decode cX2_worthOfLost 1 = .ok (.istore_n 1, 1) := by decide +kernel
theorem dX2_worthOfLost_2 : decode cX2_worthOfLost 2 = .ok (.iconst 0, 1) := by decide +kernel
theorem dX2_worthOfLost_3 : decode cX2_worthOfLost 3 = .ok (.istore_n 2, 1) := by decide +kernel
theorem dX2_worthOfLost_4 : decode cX2_worthOfLost 4 = .ok (.iload_n 2, 1) := by decide +kernel
theorem dX2_worthOfLost_5 : decode cX2_worthOfLost 5 = .ok (.aload_n 0, 1) := by decide +kernel
theorem dX2_worthOfLost_6 : decode cX2_worthOfLost 6 = .ok (.getfield 24, 3) := by decide +kernel
theorem dX2_worthOfLost_9 : decode cX2_worthOfLost 9 = .ok (.getfield 75, 3) := by decide +kernel
theorem dX2_worthOfLost_12 : decode cX2_worthOfLost 12 = .ok (.if_icmp .ge 30, 3) := by decide +kernel
theorem dX2_worthOfLost_15 : decode cX2_worthOfLost 15 = .ok (.aload_n 0, 1) := by decide +kernel
theorem dX2_worthOfLost_16 : decode cX2_worthOfLost 16 = .ok (.getfield 18, 3) := by decide +kernel
theorem dX2_worthOfLost_19 : decode cX2_worthOfLost 19 = .ok (.iload_n 2, 1) := by decide +kernel
theorem dX2_worthOfLost_20 : decode cX2_worthOfLost 20 = .ok (.iaload, 1) := by decide +kernel
theorem dX2_worthOfLost_21 : decode cX2_worthOfLost 21 = .ok (.ifCond .eq 15, 3) := by decide +kernel
theorem dX2_worthOfLost_24 : decode cX2_worthOfLost 24 = .ok (.iload_n 1, 1) := by decide +kernel
theorem dX2_worthOfLost_25 : decode cX2_worthOfLost 25 = .ok (.aload_n 0, 1) := by decide +kernel
theorem dX2_worthOfLost_26 : decode cX2_worthOfLost 26 = .ok (.getfield 24, 3) := by decide +kernel
theorem dX2_worthOfLost_29 : decode cX2_worthOfLost 29 = .ok (.getfield 88, 3) := by decide +kernel
theorem dX2_worthOfLost_32 : decode cX2_worthOfLost 32 = .ok (.iload_n 2, 1) := by decide +kernel
theorem dX2_worthOfLost_33 : decode cX2_worthOfLost 33 = .ok (.iaload, 1) := by decide +kernel
theorem dX2_worthOfLost_34 : decode cX2_worthOfLost 34 = .ok (.iadd, 1) := by decide +kernel
theorem dX2_worthOfLost_35 : decode cX2_worthOfLost 35 = .ok (.istore_n 1, 1) := by decide +kernel
theorem dX2_worthOfLost_36 : decode cX2_worthOfLost 36 = .ok (.iinc 2 1, 3) := by decide +kernel
theorem dX2_worthOfLost_39 : decode cX2_worthOfLost 39 = .ok (.goto (-35), 3) := by decide +kernel
theorem dX2_worthOfLost_42 : decode cX2_worthOfLost 42 = .ok (.iload_n 1, 1) := by decide +kernel
theorem dX2_worthOfLost_43 : decode cX2_worthOfLost 43 = .ok (.ireturn, 1) := by decide +kernel
theorem dX2_leadOfSide0_0 : decode cX2_leadOfSide0 0 = .ok (.iconst 0, 1) := by decide +kernel
theorem dX2_leadOfSide0_1 : decode cX2_leadOfSide0 1 = .ok (.istore_n 1, 1) := by decide +kernel
theorem dX2_leadOfSide0_2 : decode cX2_leadOfSide0 2 = .ok (.iconst 0, 1) := by decide +kernel
theorem dX2_leadOfSide0_3 : decode cX2_leadOfSide0 3 = .ok (.istore_n 2, 1) := by decide +kernel
theorem dX2_leadOfSide0_4 : decode cX2_leadOfSide0 4 = .ok (.iload_n 2, 1) := by decide +kernel
theorem dX2_leadOfSide0_5 : decode cX2_leadOfSide0 5 = .ok (.aload_n 0, 1) := by decide +kernel
theorem dX2_leadOfSide0_6 : decode cX2_leadOfSide0 6 = .ok (.getfield 24, 3) := by decide +kernel
theorem dX2_leadOfSide0_9 : decode cX2_leadOfSide0 9 = .ok (.getfield 82, 3) := by decide +kernel
theorem dX2_leadOfSide0_12 : decode cX2_leadOfSide0 12 = .ok (.if_icmp .ge 28, 3) := by decide +kernel
theorem dX2_leadOfSide0_15 : decode cX2_leadOfSide0 15 = .ok (.iload_n 1, 1) := by decide +kernel
theorem dX2_leadOfSide0_16 : decode cX2_leadOfSide0 16 = .ok (.aload_n 0, 1) := by decide +kernel
theorem dX2_leadOfSide0_17 : decode cX2_leadOfSide0 17 = .ok (.getfield 9, 3) := by decide +kernel
theorem dX2_leadOfSide0_20 : decode cX2_leadOfSide0 20 = .ok (.iload_n 2, 1) := by decide +kernel
theorem dX2_leadOfSide0_21 : decode cX2_leadOfSide0 21 = .ok (.iaload, 1) := by decide +kernel
theorem dX2_leadOfSide0_22 : decode cX2_leadOfSide0 22 = .ok (.iconst 2, 1) := by decide +kernel
theorem dX2_leadOfSide0_23 : decode cX2_leadOfSide0 23 = .ok (.irem, 1) := by decide +kernel
theorem dX2_leadOfSide0_24 : decode cX2_leadOfSide0 24 = .ok (.ifCond .ne 7, 3) := by decide +kernel
theorem dX2_leadOfSide0_27 : decode cX2_leadOfSide0 27 = .ok (.iconst 1, 1) := by decide +kernel
theorem dX2_leadOfSide0_28 : decode cX2_leadOfSide0 28 = .ok (.goto 4, 3) := by decide +kernel
theorem dX2_leadOfSide0_31 : decode cX2_leadOfSide0 31 = .ok (.iconst (-1), 1) := by decide +kernel
theorem dX2_leadOfSide0_32 : decode cX2_leadOfSide0 32 = .ok (.iadd, 1) := by decide +kernel
theorem dX2_leadOfSide0_33 : decode cX2_leadOfSide0 33 = .ok (.istore_n 1, 1) := by decide +kernel
theorem dX2_leadOfSide0_34 : decode cX2_leadOfSide0 34 = .ok (.iinc 2 1, 3) := by decide +kernel
theorem dX2_leadOfSide0_37 : decode cX2_leadOfSide0 37 = .ok (.goto (-33), 3) := by decide +kernel
theorem dX2_leadOfSide0_40 : decode cX2_leadOfSide0 40 = .ok (.iload_n 1, 1) := by decide +kernel
theorem dX2_leadOfSide0_41 : decode cX2_leadOfSide0 41 = .ok (.ireturn, 1) := by decide +kernel
theorem dX2_pass_0 : decode cX2_pass 0 = .ok (.aload_n 0, 1) := by decide +kernel
theorem dX2_pass_1 : decode cX2_pass 1 = .ok (.getfield 47, 3) := by decide +kernel
theorem dX2_pass_4 : decode cX2_pass 4 = .ok (.ifCond .le 32, 3) := by decide +kernel
theorem dX2_pass_7 : decode cX2_pass 7 = .ok (.aload_n 0, 1) := by decide +kernel
theorem dX2_pass_8 : decode cX2_pass 8 = .ok (.getfield 24, 3) := by decide +kernel
theorem dX2_pass_11 : decode cX2_pass 11 = .ok (.getfield 91, 3) := by decide +kernel
theorem dX2_pass_14 : decode cX2_pass 14 = .ok (.ifCond .le 22, 3) := by decide +kernel
theorem dX2_pass_17 : decode cX2_pass 17 = .ok (.aload_n 0, 1) := by decide +kernel
theorem dX2_pass_18 : decode cX2_pass 18 = .ok (.getfield 47, 3) := by decide +kernel
theorem dX2_pass_21 : decode cX2_pass 21 = .ok (.aload_n 0, 1) := by decide +kernel
theorem dX2_pass_22 : decode cX2_pass 22 = .ok (.getfield 24, 3) := by decide +kernel
theorem dX2_pass_25 : decode cX2_pass 25 = .ok (.getfield 91, 3) := by decide +kernel
theorem dX2_pass_28 : decode cX2_pass 28 = .ok (.irem, 1) := by decide +kernel
theorem dX2_pass_29 : decode cX2_pass 29 = .ok (.ifCond .ne 7, 3) := by decide +kernel
theorem dX2_pass_32 : decode cX2_pass 32 = .ok (.aload_n 0, 1) := by decide +kernel
theorem dX2_pass_33 : decode cX2_pass 33 = .ok (.invokevirtual 94, 3) := by decide +kernel
theorem dX2_pass_36 : decode cX2_pass 36 = .ok (.iconst 0, 1) := by decide +kernel
theorem dX2_pass_37 : decode cX2_pass 37 = .ok (.istore_n 1, 1) := by decide +kernel
theorem dX2_pass_38 : decode cX2_pass 38 = .ok (.iload_n 1, 1) := by decide +kernel
theorem dX2_pass_39 : decode cX2_pass 39 = .ok (.aload_n 0, 1) := by decide +kernel
theorem dX2_pass_40 : decode cX2_pass 40 = .ok (.getfield 24, 3) := by decide +kernel
theorem dX2_pass_43 : decode cX2_pass 43 = .ok (.getfield 75, 3) := by decide +kernel
theorem dX2_pass_46 : decode cX2_pass 46 = .ok (.if_icmp .ge 14, 3) := by decide +kernel
theorem dX2_pass_49 : decode cX2_pass 49 = .ok (.aload_n 0, 1) := by decide +kernel
theorem dX2_pass_50 : decode cX2_pass 50 = .ok (.iload_n 1, 1) := by decide +kernel
theorem dX2_pass_51 : decode cX2_pass 51 = .ok (.invokevirtual 97, 3) := by decide +kernel
theorem dX2_pass_54 : decode cX2_pass 54 = .ok (.iinc 1 1, 3) := by decide +kernel
theorem dX2_pass_57 : decode cX2_pass 57 = .ok (.goto (-19), 3) := by decide +kernel
theorem dX2_pass_60 : decode cX2_pass 60 = .ok (.aload_n 0, 1) := by decide +kernel
theorem dX2_pass_61 : decode cX2_pass 61 = .ok (.getfield 47, 3) := by decide +kernel
theorem dX2_pass_64 : decode cX2_pass 64 = .ok (.sipush 199, 3) := by decide +kernel
theorem dX2_pass_67 : decode cX2_pass 67 = .ok (.if_icmp .ge 13, 3) := by decide +kernel
theorem dX2_pass_70 : decode cX2_pass 70 = .ok (.aload_n 0, 1) := by decide +kernel
theorem dX2_pass_71 : decode cX2_pass 71 = .ok (.dup, 1) := by decide +kernel
theorem dX2_pass_72 : decode cX2_pass 72 = .ok (.getfield 47, 3) := by decide +kernel
theorem dX2_pass_75 : decode cX2_pass 75 = .ok (.iconst 1, 1) := by decide +kernel
theorem dX2_pass_76 : decode cX2_pass 76 = .ok (.iadd, 1) := by decide +kernel
theorem dX2_pass_77 : decode cX2_pass 77 = .ok (.putfield 47, 3) := by decide +kernel
theorem dX2_pass_80 : decode cX2_pass 80 = .ok (.aload_n 0, 1) := by decide +kernel
theorem dX2_pass_81 : decode cX2_pass 81 = .ok (.getfield 21, 3) := by decide +kernel
theorem dX2_pass_84 : decode cX2_pass 84 = .ok (.iconst 1, 1) := by decide +kernel
theorem dX2_pass_85 : decode cX2_pass 85 = .ok (.dup2, 1) := by decide +kernel
theorem dX2_pass_86 : decode cX2_pass 86 = .ok (.iaload, 1) := by decide +kernel
theorem dX2_pass_87 : decode cX2_pass 87 = .ok (.iconst 1, 1) := by decide +kernel
theorem dX2_pass_88 : decode cX2_pass 88 = .ok (.iadd, 1) := by decide +kernel
theorem dX2_pass_89 : decode cX2_pass 89 = .ok (.iastore, 1) := by decide +kernel
theorem dX2_pass_90 : decode cX2_pass 90 = .ok (.return_, 1) := by decide +kernel
theorem dX2_holdVote_0 : decode cX2_holdVote 0 = .ok (.aload_n 0, 1) := by decide +kernel
theorem dX2_holdVote_1 : decode cX2_holdVote 1 = .ok (.invokevirtual 101, 3) := by decide +kernel
theorem dX2_holdVote_4 : decode cX2_holdVote 4 = .ok (.istore_n 1, 1) := by decide +kernel
theorem dX2_holdVote_5 : decode cX2_holdVote 5 = .ok (.iload_n 1, 1) := by decide +kernel
theorem dX2_holdVote_6 : decode cX2_holdVote 6 = .ok (.ifCond .ne 10, 3) := by decide +kernel
theorem dX2_holdVote_9 : decode cX2_holdVote 9 = .ok (.aload_n 0, 1) := by decide +kernel
theorem dX2_holdVote_10 : decode cX2_holdVote 10 = .ok (.getfield 43, 3) := by decide +kernel
theorem dX2_holdVote_13 : decode cX2_holdVote 13 = .ok (.goto 12, 3) := by decide +kernel
theorem dX2_holdVote_16 : decode cX2_holdVote 16 = .ok (.iload_n 1, 1) := by decide +kernel
theorem dX2_holdVote_17 : decode cX2_holdVote 17 = .ok (.ifCond .le 7, 3) := by decide +kernel
theorem dX2_holdVote_20 : decode cX2_holdVote 20 = .ok (.iconst 0, 1) := by decide +kernel
theorem dX2_holdVote_21 : decode cX2_holdVote 21 = .ok (.goto 4, 3) := by decide +kernel
theorem dX2_holdVote_24 : decode cX2_holdVote 24 = .ok (.iconst 1, 1) := by decide +kernel
theorem dX2_holdVote_25 : decode cX2_holdVote 25 = .ok (.istore_n 2, 1) := by decide +kernel
theorem dX2_holdVote_26 : decode cX2_holdVote 26 = .ok (.iload_n 2, 1) := by decide +kernel
theorem dX2_holdVote_27 : decode cX2_holdVote 27 = .ok (.aload_n 0, 1) := by decide +kernel
theorem dX2_holdVote_28 : decode cX2_holdVote 28 = .ok (.getfield 43, 3) := by decide +kernel
theorem dX2_holdVote_31 : decode cX2_holdVote 31 = .ok (.if_icmp .eq 13, 3) := by decide +kernel
theorem dX2_holdVote_34 : decode cX2_holdVote 34 = .ok (.aload_n 0, 1) := by decide +kernel
theorem dX2_holdVote_35 : decode cX2_holdVote 35 = .ok (.getfield 21, 3) := by decide +kernel
theorem dX2_holdVote_38 : decode cX2_holdVote 38 = .ok (.iconst 3, 1) := by decide +kernel
theorem dX2_holdVote_39 : decode cX2_holdVote 39 = .ok (.dup2, 1) := by decide +kernel
theorem dX2_holdVote_40 : decode cX2_holdVote 40 = .ok (.iaload, 1) := by decide +kernel
theorem dX2_holdVote_41 : decode cX2_holdVote 41 = .ok (.iconst 1, 1) := by decide +kernel
theorem dX2_holdVote_42 : decode cX2_holdVote 42 = .ok (.iadd, 1) := by decide +kernel
theorem dX2_holdVote_43 : decode cX2_holdVote 43 = .ok (.iastore, 1) := by decide +kernel
theorem dX2_holdVote_44 : decode cX2_holdVote 44 = .ok (.aload_n 0, 1) := by decide +kernel
theorem dX2_holdVote_45 : decode cX2_holdVote 45 = .ok (.iload_n 2, 1) := by decide +kernel
theorem dX2_holdVote_46 : decode cX2_holdVote 46 = .ok (.putfield 43, 3) := by decide +kernel
theorem dX2_holdVote_49 : decode cX2_holdVote 49 = .ok (.aload_n 0, 1) := by decide +kernel
theorem dX2_holdVote_50 : decode cX2_holdVote 50 = .ok (.getfield 21, 3) := by decide +kernel
theorem dX2_holdVote_53 : decode cX2_holdVote 53 = .ok (.iconst 2, 1) := by decide +kernel
theorem dX2_holdVote_54 : decode cX2_holdVote 54 = .ok (.dup2, 1) := by decide +kernel
theorem dX2_holdVote_55 : decode cX2_holdVote 55 = .ok (.iaload, 1) := by decide +kernel
theorem dX2_holdVote_56 : decode cX2_holdVote 56 = .ok (.iconst 1, 1) := by decide +kernel
theorem dX2_holdVote_57 : decode cX2_holdVote 57 = .ok (.iadd, 1) := by decide +kernel
theorem dX2_holdVote_58 : decode cX2_holdVote 58 = .ok (.iastore, 1) := by decide +kernel
theorem dX2_holdVote_59 : decode cX2_holdVote 59 = .ok (.return_, 1) := by decide +kernel
theorem dX2_passFor_0 : decode cX2_passFor 0 = .ok (.aload_n 0, 1) := by decide +kernel
theorem dX2_passFor_1 : decode cX2_passFor 1 = .ok (.iload_n 1, 1) := by decide +kernel
theorem dX2_passFor_2 : decode cX2_passFor 2 = .ok (.invokevirtual 105, 3) := by decide +kernel
theorem dX2_passFor_5 : decode cX2_passFor 5 = .ok (.aload_n 0, 1) := by decide +kernel
theorem dX2_passFor_6 : decode cX2_passFor 6 = .ok (.getfield 43, 3) := by decide +kernel
theorem dX2_passFor_9 : decode cX2_passFor 9 = .ok (.if_icmp .ne 7, 3) := by decide +kernel
theorem dX2_passFor_12 : decode cX2_passFor 12 = .ok (.iconst 1, 1) := by decide +kernel
theorem dX2_passFor_13 : decode cX2_passFor 13 = .ok (.goto 4, 3) := by decide +kernel
theorem dX2_passFor_16 : decode cX2_passFor 16 = .ok (.iconst 0, 1) := by decide +kernel
theorem dX2_passFor_17 : decode cX2_passFor 17 = .ok (.istore_n 2, 1) := by decide +kernel
theorem dX2_passFor_18 : decode cX2_passFor 18 = .ok (.aload_n 0, 1) := by decide +kernel
theorem dX2_passFor_19 : decode cX2_passFor 19 = .ok (.iload_n 1, 1) := by decide +kernel
theorem dX2_passFor_20 : decode cX2_passFor 20 = .ok (.invokevirtual 69, 3) := by decide +kernel
theorem dX2_passFor_23 : decode cX2_passFor 23 = .ok (.ifCond .eq 15, 3) := by decide +kernel
theorem dX2_passFor_26 : decode cX2_passFor 26 = .ok (.iload_n 2, 1) := by decide +kernel
theorem dX2_passFor_27 : decode cX2_passFor 27 = .ok (.ifCond .eq 64, 3) := by decide +kernel
theorem dX2_passFor_30 : decode cX2_passFor 30 = .ok (.aload_n 0, 1) := by decide +kernel
theorem dX2_passFor_31 : decode cX2_passFor 31 = .ok (.iload_n 1, 1) := by decide +kernel
theorem dX2_passFor_32 : decode cX2_passFor 32 = .ok (.invokevirtual 108, 3) := by decide +kernel
theorem dX2_passFor_35 : decode cX2_passFor 35 = .ok (.goto 56, 3) := by decide +kernel
theorem dX2_passFor_38 : decode cX2_passFor 38 = .ok (.aload_n 0, 1) := by decide +kernel
theorem dX2_passFor_39 : decode cX2_passFor 39 = .ok (.iload_n 1, 1) := by decide +kernel
theorem dX2_passFor_40 : decode cX2_passFor 40 = .ok (.invokevirtual 65, 3) := by decide +kernel
theorem dX2_passFor_43 : decode cX2_passFor 43 = .ok (.ifCond .eq 48, 3) := by decide +kernel
theorem dX2_passFor_46 : decode cX2_passFor 46 = .ok (.iload_n 2, 1) := by decide +kernel
theorem dX2_passFor_47 : decode cX2_passFor 47 = .ok (.ifCond .eq 11, 3) := by decide +kernel
theorem dX2_passFor_50 : decode cX2_passFor 50 = .ok (.aload_n 0, 1) := by decide +kernel
theorem dX2_passFor_51 : decode cX2_passFor 51 = .ok (.iload_n 1, 1) := by decide +kernel
theorem dX2_passFor_52 : decode cX2_passFor 52 = .ok (.invokevirtual 108, 3) := by decide +kernel
theorem dX2_passFor_55 : decode cX2_passFor 55 = .ok (.goto 36, 3) := by decide +kernel
theorem dX2_passFor_58 : decode cX2_passFor 58 = .ok (.aload_n 0, 1) := by decide +kernel
theorem dX2_passFor_59 : decode cX2_passFor 59 = .ok (.getfield 47, 3) := by decide +kernel
theorem dX2_passFor_62 : decode cX2_passFor 62 = .ok (.aload_n 0, 1) := by decide +kernel
theorem dX2_passFor_63 : decode cX2_passFor 63 = .ok (.getfield 24, 3) := by decide +kernel
theorem dX2_passFor_66 : decode cX2_passFor 66 = .ok (.getfield 62, 3) := by decide +kernel
theorem dX2_passFor_69 : decode cX2_passFor 69 = .ok (.iload_n 1, 1) := by decide +kernel
theorem dX2_passFor_70 : decode cX2_passFor 70 = .ok (.iaload, 1) := by decide +kernel
theorem dX2_passFor_71 : decode cX2_passFor 71 = .ok (.aload_n 0, 1) := by decide +kernel
theorem dX2_passFor_72 : decode cX2_passFor 72 = .ok (.getfield 24, 3) := by decide +kernel
theorem dX2_passFor_75 : decode cX2_passFor 75 = .ok (.getfield 111, 3) := by decide +kernel
theorem dX2_passFor_78 : decode cX2_passFor 78 = .ok (.iload_n 1, 1) := by decide +kernel
theorem dX2_passFor_79 : decode cX2_passFor 79 = .ok (.iaload, 1) := by decide +kernel
theorem dX2_passFor_80 : decode cX2_passFor 80 = .ok (.iadd, 1) := by decide +kernel
theorem dX2_passFor_81 : decode cX2_passFor 81 = .ok (.if_icmp .lt 10, 3) := by decide +kernel
theorem dX2_passFor_84 : decode cX2_passFor 84 = .ok (.aload_n 0, 1) := by decide +kernel
theorem dX2_passFor_85 : decode cX2_passFor 85 = .ok (.getfield 18, 3) := by decide +kernel
theorem dX2_passFor_88 : decode cX2_passFor 88 = .ok (.iload_n 1, 1) := by decide +kernel
theorem dX2_passFor_89 : decode cX2_passFor 89 = .ok (.iconst 1, 1) := by decide +kernel
theorem dX2_passFor_90 : decode cX2_passFor 90 = .ok (.iastore, 1) := by decide +kernel
theorem dX2_passFor_91 : decode cX2_passFor 91 = .ok (.return_, 1) := by decide +kernel
theorem dX2_runOn_0 : decode cX2_runOn 0 = .ok (.aload_n 0, 1) := by decide +kernel
theorem dX2_runOn_1 : decode cX2_runOn 1 = .ok (.getfield 15, 3) := by decide +kernel
theorem dX2_runOn_4 : decode cX2_runOn 4 = .ok (.iload_n 1, 1) := by decide +kernel
theorem dX2_runOn_5 : decode cX2_runOn 5 = .ok (.dup2, 1) := by decide +kernel
theorem dX2_runOn_6 : decode cX2_runOn 6 = .ok (.iaload, 1) := by decide +kernel
theorem dX2_runOn_7 : decode cX2_runOn 7 = .ok (.iconst 1, 1) := by decide +kernel
theorem dX2_runOn_8 : decode cX2_runOn 8 = .ok (.iadd, 1) := by decide +kernel
theorem dX2_runOn_9 : decode cX2_runOn 9 = .ok (.iastore, 1) := by decide +kernel
theorem dX2_runOn_10 : decode cX2_runOn 10 = .ok (.aload_n 0, 1) := by decide +kernel
theorem dX2_runOn_11 : decode cX2_runOn 11 = .ok (.iload_n 1, 1) := by decide +kernel
theorem dX2_runOn_12 : decode cX2_runOn 12 = .ok (.invokevirtual 72, 3) := by decide +kernel
theorem dX2_runOn_15 : decode cX2_runOn 15 = .ok (.ifCond .eq 13, 3) := by decide +kernel
theorem dX2_runOn_18 : decode cX2_runOn 18 = .ok (.aload_n 0, 1) := by decide +kernel
theorem dX2_runOn_19 : decode cX2_runOn 19 = .ok (.getfield 21, 3) := by decide +kernel
theorem dX2_runOn_22 : decode cX2_runOn 22 = .ok (.iconst 5, 1) := by decide +kernel
theorem dX2_runOn_23 : decode cX2_runOn 23 = .ok (.dup2, 1) := by decide +kernel
theorem dX2_runOn_24 : decode cX2_runOn 24 = .ok (.iaload, 1) := by decide +kernel
theorem dX2_runOn_25 : decode cX2_runOn 25 = .ok (.iconst 1, 1) := by decide +kernel
theorem dX2_runOn_26 : decode cX2_runOn 26 = .ok (.iadd, 1) := by decide +kernel
theorem dX2_runOn_27 : decode cX2_runOn 27 = .ok (.iastore, 1) := by decide +kernel
theorem dX2_runOn_28 : decode cX2_runOn 28 = .ok (.return_, 1) := by decide +kernel
theorem dX3_init_0 : decode cX3_init 0 = .ok (.aload_n 0, 1) := by decide +kernel
theorem dX3_init_1 : decode cX3_init 1 = .ok (.invokespecial 1, 3) := by decide +kernel
theorem dX3_init_4 : decode cX3_init 4 = .ok (.aload_n 0, 1) := by decide +kernel
theorem dX3_init_5 : decode cX3_init 5 = .ok (.bipush 6, 2) := by decide +kernel
theorem dX3_init_7 : decode cX3_init 7 = .ok (.newarray .int, 2) := by decide +kernel
theorem dX3_init_9 : decode cX3_init 9 = .ok (.putfield 9, 3) := by decide +kernel
theorem dX3_init_12 : decode cX3_init 12 = .ok (.aload_n 0, 1) := by decide +kernel
theorem dX3_init_13 : decode cX3_init 13 = .ok (.sipush 128, 3) := by decide +kernel
theorem dX3_init_16 : decode cX3_init 16 = .ok (.newarray .int, 2) := by decide +kernel
theorem dX3_init_18 : decode cX3_init 18 = .ok (.putfield 13, 3) := by decide +kernel
theorem dX3_init_21 : decode cX3_init 21 = .ok (.aload_n 0, 1) := by decide +kernel
theorem dX3_init_22 : decode cX3_init 22 = .ok (.sipush 128, 3) := by decide +kernel
theorem dX3_init_25 : decode cX3_init 25 = .ok (.newarray .int, 2) := by decide +kernel
theorem dX3_init_27 : decode cX3_init 27 = .ok (.putfield 16, 3) := by decide +kernel
theorem dX3_init_30 : decode cX3_init 30 = .ok (.aload_n 0, 1) := by decide +kernel
theorem dX3_init_31 : decode cX3_init 31 = .ok (.sipush 128, 3) := by decide +kernel
theorem dX3_init_34 : decode cX3_init 34 = .ok (.newarray .int, 2) := by decide +kernel
theorem dX3_init_36 : decode cX3_init 36 = .ok (.putfield 19, 3) := by decide +kernel
theorem dX3_init_39 : decode cX3_init 39 = .ok (.return_, 1) := by decide +kernel
theorem dX3_clear_0 : decode cX3_clear 0 = .ok (.aload_n 0, 1) := by decide +kernel
theorem dX3_clear_1 : decode cX3_clear 1 = .ok (.iconst 0, 1) := by decide +kernel
theorem dX3_clear_2 : decode cX3_clear 2 = .ok (.putfield 22, 3) := by decide +kernel
theorem dX3_clear_5 : decode cX3_clear 5 = .ok (.return_, 1) := by decide +kernel
theorem dX3_isTold_0 : decode cX3_isTold 0 = .ok (.aload_n 0, 1) := by decide +kernel
theorem dX3_isTold_1 : decode cX3_isTold 1 = .ok (.getfield 22, 3) := by decide +kernel
theorem dX3_isTold_4 : decode cX3_isTold 4 = .ok (.ifCond .le 7, 3) := by decide +kernel
theorem dX3_isTold_7 : decode cX3_isTold 7 = .ok (.iconst 1, 1) := by decide +kernel
theorem dX3_isTold_8 : decode cX3_isTold 8 = .ok (.goto 4, 3) := by decide +kernel
theorem dX3_isTold_11 : decode cX3_isTold 11 = .ok (.iconst 0, 1) := by decide +kernel
theorem dX3_isTold_12 : decode cX3_isTold 12 = .ok (.ireturn, 1) := by decide +kernel
theorem dX3_take_0 : decode cX3_take 0 = .ok (.aload_n 1, 1) := by decide +kernel
theorem dX3_take_1 : decode cX3_take 1 = .ok (.getfield 13, 3) := by decide +kernel
theorem dX3_take_4 : decode cX3_take 4 = .ok (.iconst 0, 1) := by decide +kernel
theorem dX3_take_5 : decode cX3_take 5 = .ok (.aload_n 0, 1) := by decide +kernel
theorem dX3_take_6 : decode cX3_take 6 = .ok (.getfield 13, 3) := by decide +kernel
theorem dX3_take_9 : decode cX3_take 9 = .ok (.iconst 0, 1) := by decide +kernel
theorem dX3_take_10 : decode cX3_take 10 = .ok (.sipush 128, 3) := by decide +kernel
theorem dX3_take_13 : decode cX3_take 13 = .ok (.invokestatic 26, 3) := by decide +kernel
theorem dX3_take_16 : decode cX3_take 16 = .ok (.aload_n 1, 1) := by decide +kernel
theorem dX3_take_17 : decode cX3_take 17 = .ok (.getfield 16, 3) := by decide +kernel
theorem dX3_take_20 : decode cX3_take 20 = .ok (.iconst 0, 1) := by decide +kernel
theorem dX3_take_21 : decode cX3_take 21 = .ok (.aload_n 0, 1) := by decide +kernel
theorem dX3_take_22 : decode cX3_take 22 = .ok (.getfield 16, 3) := by decide +kernel
theorem dX3_take_25 : decode cX3_take 25 = .ok (.iconst 0, 1) := by decide +kernel
theorem dX3_take_26 : decode cX3_take 26 = .ok (.sipush 128, 3) := by decide +kernel
theorem dX3_take_29 : decode cX3_take 29 = .ok (.invokestatic 26, 3) := by decide +kernel
theorem dX3_take_32 : decode cX3_take 32 = .ok (.aload_n 0, 1) := by decide +kernel
theorem dX3_take_33 : decode cX3_take 33 = .ok (.aload_n 1, 1) := by decide +kernel
theorem dX3_take_34 : decode cX3_take 34 = .ok (.getfield 22, 3) := by decide +kernel
theorem dX3_take_37 : decode cX3_take 37 = .ok (.putfield 22, 3) := by decide +kernel
theorem dX3_take_40 : decode cX3_take 40 = .ok (.return_, 1) := by decide +kernel
theorem dX3_add_0 : decode cX3_add 0 = .ok (.aload_n 0, 1) := by decide +kernel
theorem dX3_add_1 : decode cX3_add 1 = .ok (.getfield 22, 3) := by decide +kernel
theorem dX3_add_4 : decode cX3_add 4 = .ok (.sipush 128, 3) := by decide +kernel
theorem dX3_add_7 : decode cX3_add 7 = .ok (.if_icmp .lt 6, 3) := by decide +kernel
theorem dX3_add_10 : decode cX3_add 10 = .ok (.bipush 127, 2) := by decide +kernel
theorem dX3_add_12 : decode cX3_add 12 = .ok (.ireturn, 1) := by decide +kernel
theorem dX3_add_13 : decode cX3_add 13 = .ok (.aload_n 0, 1) := by decide +kernel
theorem dX3_add_14 : decode cX3_add 14 = .ok (.getfield 13, 3) := by decide +kernel
theorem dX3_add_17 : decode cX3_add 17 = .ok (.aload_n 0, 1) := by decide +kernel
theorem dX3_add_18 : decode cX3_add 18 = .ok (.getfield 22, 3) := by decide +kernel
theorem dX3_add_21 : decode cX3_add 21 = .ok (.iload_n 1, 1) := by decide +kernel
theorem dX3_add_22 : decode cX3_add 22 = .ok (.iastore, 1) := by decide +kernel
theorem dX3_add_23 : decode cX3_add 23 = .ok (.aload_n 0, 1) := by decide +kernel
theorem dX3_add_24 : decode cX3_add 24 = .ok (.getfield 16, 3) := by decide +kernel
theorem dX3_add_27 : decode cX3_add 27 = .ok (.aload_n 0, 1) := by decide +kernel
theorem dX3_add_28 : decode cX3_add 28 = .ok (.getfield 22, 3) := by decide +kernel
theorem dX3_add_31 : decode cX3_add 31 = .ok (.iload_n 2, 1) := by decide +kernel
theorem dX3_add_32 : decode cX3_add 32 = .ok (.iastore, 1) := by decide +kernel
theorem dX3_add_33 : decode cX3_add 33 = .ok (.aload_n 0, 1) := by decide +kernel
theorem dX3_add_34 : decode cX3_add 34 = .ok (.dup, 1) := by decide +kernel
theorem dX3_add_35 : decode cX3_add 35 = .ok (.getfield 22, 3) := by decide +kernel
theorem dX3_add_38 : decode cX3_add 38 = .ok (.dup_x1, 1) := by decide +kernel
theorem dX3_add_39 : decode cX3_add 39 = .ok (.iconst 1, 1) := by decide +kernel
theorem dX3_add_40 : decode cX3_add 40 = .ok (.iadd, 1) := by decide +kernel
theorem dX3_add_41 : decode cX3_add 41 = .ok (.putfield 22, 3) := by decide +kernel
theorem dX3_add_44 : decode cX3_add 44 = .ok (.ireturn, 1) := by decide +kernel
theorem dX3_aimTest_0 : decode cX3_aimTest 0 = .ok (.iload_n 1, 1) := by decide +kernel
theorem dX3_aimTest_1 : decode cX3_aimTest 1 = .ok (.ifCond .lt 23, 3) := by decide +kernel
theorem dX3_aimTest_4 : decode cX3_aimTest 4 = .ok (.iload_n 1, 1) := by decide +kernel
theorem dX3_aimTest_5 : decode cX3_aimTest 5 = .ok (.aload_n 0, 1) := by decide +kernel
theorem dX3_aimTest_6 : decode cX3_aimTest 6 = .ok (.getfield 22, 3) := by decide +kernel
theorem dX3_aimTest_9 : decode cX3_aimTest 9 = .ok (.if_icmp .ge 15, 3) := by decide +kernel
theorem dX3_aimTest_12 : decode cX3_aimTest 12 = .ok (.aload_n 0, 1) := by decide +kernel
theorem dX3_aimTest_13 : decode cX3_aimTest 13 = .ok (.getfield 16, 3) := by decide +kernel
theorem dX3_aimTest_16 : decode cX3_aimTest 16 = .ok (.iload_n 1, 1) := by decide +kernel
theorem dX3_aimTest_17 : decode cX3_aimTest 17 = .ok (.aload_n 0, 1) := by decide +kernel
theorem dX3_aimTest_18 : decode cX3_aimTest 18 = .ok (.getfield 22, 3) := by decide +kernel
theorem dX3_aimTest_21 : decode cX3_aimTest 21 = .ok (.iconst 1, 1) := by decide +kernel
theorem dX3_aimTest_22 : decode cX3_aimTest 22 = .ok (.isub, 1) := by decide +kernel
theorem dX3_aimTest_23 : decode cX3_aimTest 23 = .ok (.iastore, 1) := by decide +kernel
theorem dX3_aimTest_24 : decode cX3_aimTest 24 = .ok (.return_, 1) := by decide +kernel
theorem dX3_workOut_0 : decode cX3_workOut 0 = .ok (.iconst 0, 1) := by decide +kernel
theorem dX3_workOut_1 : decode cX3_workOut 1 = .ok (.istore_n 1, 1) := by decide +kernel
theorem dX3_workOut_2 : decode cX3_workOut 2 = .ok (.iconst 0, 1) := by decide +kernel
theorem dX3_workOut_3 : decode cX3_workOut 3 = .ok (.istore_n 2, 1) := by decide +kernel
theorem dX3_workOut_4 : decode cX3_workOut 4 = .ok (.iload_n 2, 1) := by decide +kernel
theorem dX3_workOut_5 : decode cX3_workOut 5 = .ok (.aload_n 0, 1) := by decide +kernel
theorem dX3_workOut_6 : decode cX3_workOut 6 = .ok (.getfield 22, 3) := by decide +kernel
theorem dX3_workOut_9 : decode cX3_workOut 9 = .ok (.if_icmp .ge 219, 3) := by decide +kernel
theorem dX3_workOut_12 : decode cX3_workOut 12 = .ok (.aload_n 0, 1) := by decide +kernel
theorem dX3_workOut_13 : decode cX3_workOut 13 = .ok (.getfield 13, 3) := by decide +kernel
theorem dX3_workOut_16 : decode cX3_workOut 16 = .ok (.iload_n 2, 1) := by decide +kernel
theorem dX3_workOut_17 : decode cX3_workOut 17 = .ok (.iaload, 1) := by decide +kernel
theorem dX3_workOut_18 : decode cX3_workOut 18 = .ok (.istore_n 3, 1) := by decide +kernel
theorem dX3_workOut_19 : decode cX3_workOut 19 = .ok (.iload_n 3, 1) := by decide +kernel
theorem dX3_workOut_20 : decode cX3_workOut 20 = .ok (.bipush 35, 2) := by decide +kernel
theorem dX3_workOut_22 : decode cX3_workOut 22 = .ok (.if_icmp .eq 9, 3) := by decide +kernel
theorem dX3_workOut_25 : decode cX3_workOut 25 = .ok (.iload_n 3, 1) := by decide +kernel
theorem dX3_workOut_26 : decode cX3_workOut 26 = .ok (.bipush 36, 2) := by decide +kernel
theorem dX3_workOut_28 : decode cX3_workOut 28 = .ok (.if_icmp .ne 47, 3) := by decide +kernel
theorem dX3_workOut_31 : decode cX3_workOut 31 = .ok (.iload_n 1, 1) := by decide +kernel
theorem dX3_workOut_32 : decode cX3_workOut 32 = .ok (.sipush 128, 3) := by decide +kernel
theorem dX3_workOut_35 : decode cX3_workOut 35 = .ok (.if_icmp .ge 187, 3) := by decide +kernel
theorem dX3_workOut_38 : decode cX3_workOut 38 = .ok (.aload_n 0, 1) := by decide +kernel
theorem dX3_workOut_39 : decode cX3_workOut 39 = .ok (.getfield 19, 3) := by decide +kernel
theorem dX3_workOut_42 : decode cX3_workOut 42 = .ok (.iload_n 1, 1) := by decide +kernel
theorem dX3_workOut_43 : decode cX3_workOut 43 = .ok (.iinc 1 1, 3) := by decide +kernel
theorem dX3_workOut_46 : decode cX3_workOut 46 = .ok (.iload_n 3, 1) := by decide +kernel
theorem dX3_workOut_47 : decode cX3_workOut 47 = .ok (.bipush 35, 2) := by decide +kernel
theorem dX3_workOut_49 : decode cX3_workOut 49 = .ok (.if_icmp .ne 12, 3) := by decide +kernel
theorem dX3_workOut_52 : decode cX3_workOut 52 = .ok (.aload_n 0, 1) := by decide +kernel
theorem dX3_workOut_53 : decode cX3_workOut 53 = .ok (.getfield 16, 3) := by decide +kernel
theorem dX3_workOut_56 : decode cX3_workOut 56 = .ok (.iload_n 2, 1) := by decide +kernel
theorem dX3_workOut_57 : decode cX3_workOut 57 = .ok (.iaload, 1) := by decide +kernel
theorem dX3_workOut_58 : decode cX3_workOut 58 = .ok (.goto 13, 3) := by decide +kernel
theorem dX3_workOut_61 : decode cX3_workOut 61 = .ok (.aload_n 0, 1) := by decide +kernel
theorem dX3_workOut_62 : decode cX3_workOut 62 = .ok (.aload_n 0, 1) := by decide +kernel
theorem dX3_workOut_63 : decode cX3_workOut 63 = .ok (.getfield 16, 3) := by decide +kernel
theorem dX3_workOut_66 : decode cX3_workOut 66 = .ok (.iload_n 2, 1) := by decide +kernel
theorem dX3_workOut_67 : decode cX3_workOut 67 = .ok (.iaload, 1) := by decide +kernel
theorem dX3_workOut_68 : decode cX3_workOut 68 = .ok (.invokevirtual 32, 3) := by decide +kernel
theorem dX3_workOut_71 : decode cX3_workOut 71 = .ok (.iastore, 1) := by decide +kernel
theorem dX3_workOut_72 : decode cX3_workOut 72 = .ok (.goto 150, 3) := by decide +kernel
theorem dX3_workOut_75 : decode cX3_workOut 75 = .ok (.iload_n 1, 1) := by decide +kernel
theorem dX3_workOut_76 : decode cX3_workOut 76 = .ok (.iconst 1, 1) := by decide +kernel
theorem dX3_workOut_77 : decode cX3_workOut 77 = .ok (.if_icmp .ge 5, 3) := by decide +kernel
theorem dX3_workOut_80 : decode cX3_workOut 80 = .ok (.iconst 0, 1) := by decide +kernel
theorem dX3_workOut_81 : decode cX3_workOut 81 = .ok (.ireturn, 1) := by decide +kernel
theorem dX3_workOut_82 : decode cX3_workOut 82 = .ok (.iload_n 3, 1) := by decide +kernel
theorem dX3_workOut_83 : decode cX3_workOut 83 = .ok (.bipush 59, 2) := by decide +kernel
theorem dX3_workOut_85 : decode cX3_workOut 85 = .ok (.if_icmp .ne 12, 3) := by decide +kernel
theorem dX3_workOut_88 : decode cX3_workOut 88 = .ok (.aload_n 0, 1) := by decide +kernel
theorem dX3_workOut_89 : decode cX3_workOut 89 = .ok (.getfield 19, 3) := by decide +kernel
theorem dX3_workOut_92 : decode cX3_workOut 92 = .ok (.iload_n 1, 1) := by decide +kernel
theorem dX3_workOut_93 : decode cX3_workOut 93 = .ok (.iconst 1, 1) := by decide +kernel
theorem dX3_workOut_94 : decode cX3_workOut 94 = .ok (.isub, 1) := by decide +kernel
theorem dX3_workOut_95 : decode cX3_workOut 95 = .ok (.iaload, 1) := by decide +kernel
theorem dX3_workOut_96 : decode cX3_workOut 96 = .ok (.ireturn, 1) := by decide +kernel
theorem dX3_workOut_97 : decode cX3_workOut 97 = .ok (.iload_n 3, 1) := by decide +kernel
theorem dX3_workOut_98 : decode cX3_workOut 98 = .ok (.bipush 63, 2) := by decide +kernel
theorem dX3_workOut_100 : decode cX3_workOut 100 = .ok (.if_icmp .ne 29, 3) := by decide +kernel
theorem dX3_workOut_103 : decode cX3_workOut 103 = .ok (.iinc 1 (-1), 3) := by decide +kernel
theorem dX3_workOut_106 : decode cX3_workOut 106 = .ok (.aload_n 0, 1) := by decide +kernel
theorem dX3_workOut_107 : decode cX3_workOut 107 = .ok (.getfield 19, 3) := by decide +kernel
theorem dX3_workOut_110 : decode cX3_workOut 110 = .ok (.iload_n 1, 1) := by decide +kernel
theorem dX3_workOut_111 : decode cX3_workOut 111 = .ok (.iaload, 1) := by decide +kernel
theorem dX3_workOut_112 : decode cX3_workOut 112 = .ok (.ifCond .ne 110, 3) := by decide +kernel
theorem dX3_workOut_115 : decode cX3_workOut 115 = .ok (.iload_n 2, 1) := by decide +kernel
theorem dX3_workOut_116 : decode cX3_workOut 116 = .ok (.aload_n 0, 1) := by decide +kernel
theorem dX3_workOut_117 : decode cX3_workOut 117 = .ok (.getfield 16, 3) := by decide +kernel
theorem dX3_workOut_120 : decode cX3_workOut 120 = .ok (.iload_n 2, 1) := by decide +kernel
theorem dX3_workOut_121 : decode cX3_workOut 121 = .ok (.iaload, 1) := by decide +kernel
theorem dX3_workOut_122 : decode cX3_workOut 122 = .ok (.invokestatic 36, 3) := by decide +kernel
theorem dX3_workOut_125 : decode cX3_workOut 125 = .ok (.istore_n 2, 1) := by decide +kernel
theorem dX3_workOut_126 : decode cX3_workOut 126 = .ok (.goto 96, 3) := by decide +kernel
theorem dX3_workOut_129 : decode cX3_workOut 129 = .ok (.iload_n 3, 1) := by decide +kernel
theorem dX3_workOut_130 : decode cX3_workOut 130 = .ok (.bipush 33, 2) := by decide +kernel
theorem dX3_workOut_132 : decode cX3_workOut 132 = .ok (.if_icmp .ne 30, 3) := by decide +kernel
theorem dX3_workOut_135 : decode cX3_workOut 135 = .ok (.aload_n 0, 1) := by decide +kernel
theorem dX3_workOut_136 : decode cX3_workOut 136 = .ok (.getfield 19, 3) := by decide +kernel
theorem dX3_workOut_139 : decode cX3_workOut 139 = .ok (.iload_n 1, 1) := by decide +kernel
theorem dX3_workOut_140 : decode cX3_workOut 140 = .ok (.iconst 1, 1) := by decide +kernel
theorem dX3_workOut_141 : decode cX3_workOut 141 = .ok (.isub, 1) := by decide +kernel
theorem dX3_workOut_142 : decode cX3_workOut 142 = .ok (.aload_n 0, 1) := by decide +kernel
theorem dX3_workOut_143 : decode cX3_workOut 143 = .ok (.getfield 19, 3) := by decide +kernel
theorem dX3_workOut_146 : decode cX3_workOut 146 = .ok (.iload_n 1, 1) := by decide +kernel
theorem dX3_workOut_147 : decode cX3_workOut 147 = .ok (.iconst 1, 1) := by decide +kernel
theorem dX3_workOut_148 : decode cX3_workOut 148 = .ok (.isub, 1) := by decide +kernel
theorem dX3_workOut_149 : decode cX3_workOut 149 = .ok (.iaload, 1) := by decide +kernel
theorem dX3_workOut_150 : decode cX3_workOut 150 = .ok (.ifCond .ne 7, 3) := by decide +kernel
theorem dX3_workOut_153 : decode cX3_workOut 153 = .ok (.iconst 1, 1) := by decide +kernel
theorem dX3_workOut_154 : decode cX3_workOut 154 = .ok (.goto 4, 3) := by decide +kernel
theorem dX3_workOut_157 : decode cX3_workOut 157 = .ok (.iconst 0, 1) := by decide +kernel
theorem dX3_workOut_158 : decode cX3_workOut 158 = .ok (.iastore, 1) := by decide +kernel
theorem dX3_workOut_159 : decode cX3_workOut 159 = .ok (.goto 63, 3) := by decide +kernel
theorem dX3_workOut_162 : decode cX3_workOut 162 = .ok (.iload_n 3, 1) := by decide +kernel
theorem dX3_workOut_163 : decode cX3_workOut 163 = .ok (.bipush 126, 2) := by decide +kernel
theorem dX3_workOut_165 : decode cX3_workOut 165 = .ok (.if_icmp .ne 23, 3) := by decide +kernel
theorem dX3_workOut_168 : decode cX3_workOut 168 = .ok (.aload_n 0, 1) := by decide +kernel
theorem dX3_workOut_169 : decode cX3_workOut 169 = .ok (.getfield 19, 3) := by decide +kernel
theorem dX3_workOut_172 : decode cX3_workOut 172 = .ok (.iload_n 1, 1) := by decide +kernel
theorem dX3_workOut_173 : decode cX3_workOut 173 = .ok (.iconst 1, 1) := by decide +kernel
theorem dX3_workOut_174 : decode cX3_workOut 174 = .ok (.isub, 1) := by decide +kernel
theorem dX3_workOut_175 : decode cX3_workOut 175 = .ok (.aload_n 0, 1) := by decide +kernel
theorem dX3_workOut_176 : decode cX3_workOut 176 = .ok (.getfield 19, 3) := by decide +kernel
theorem dX3_workOut_179 : decode cX3_workOut 179 = .ok (.iload_n 1, 1) := by decide +kernel
theorem dX3_workOut_180 : decode cX3_workOut 180 = .ok (.iconst 1, 1) := by decide +kernel
theorem dX3_workOut_181 : decode cX3_workOut 181 = .ok (.isub, 1) := by decide +kernel
theorem dX3_workOut_182 : decode cX3_workOut 182 = .ok (.iaload, 1) := by decide +kernel
theorem dX3_workOut_183 : decode cX3_workOut 183 = .ok (.ineg, 1) := by decide +kernel
theorem dX3_workOut_184 : decode cX3_workOut 184 = .ok (.iastore, 1) := by decide +kernel
theorem dX3_workOut_185 : decode cX3_workOut 185 = .ok (.goto 37, 3) := by decide +kernel
theorem dX3_workOut_188 : decode cX3_workOut 188 = .ok (.iload_n 1, 1) := by decide +kernel
theorem dX3_workOut_189 : decode cX3_workOut 189 = .ok (.iconst 1, 1) := by decide +kernel
theorem dX3_workOut_190 : decode cX3_workOut 190 = .ok (.if_icmp .le 32, 3) := by decide +kernel
theorem dX3_workOut_193 : decode cX3_workOut 193 = .ok (.iinc 1 (-1), 3) := by decide +kernel
theorem dX3_workOut_196 : decode cX3_workOut 196 = .ok (.aload_n 0, 1) := by decide +kernel
theorem dX3_workOut_197 : decode cX3_workOut 197 = .ok (.getfield 19, 3) := by decide +kernel
theorem dX3_workOut_200 : decode cX3_workOut 200 = .ok (.iload_n 1, 1) := by decide +kernel
theorem dX3_workOut_201 : decode cX3_workOut 201 = .ok (.iconst 1, 1) := by decide +kernel
theorem dX3_workOut_202 : decode cX3_workOut 202 = .ok (.isub, 1) := by decide +kernel
theorem dX3_workOut_203 : decode cX3_workOut 203 = .ok (.iload_n 3, 1) := by decide +kernel
theorem dX3_workOut_204 : decode cX3_workOut 204 = .ok (.aload_n 0, 1) := by decide +kernel
theorem dX3_workOut_205 : decode cX3_workOut 205 = .ok (.getfield 19, 3) := by decide +kernel
theorem dX3_workOut_208 : decode cX3_workOut 208 = .ok (.iload_n 1, 1) := by decide +kernel
theorem dX3_workOut_209 : decode cX3_workOut 209 = .ok (.iconst 1, 1) := by decide +kernel
theorem dX3_workOut_210 : decode cX3_workOut 210 = .ok (.isub, 1) := by decide +kernel
theorem dX3_workOut_211 : decode cX3_workOut 211 = .ok (.iaload, 1) := by decide +kernel
theorem dX3_workOut_212 : decode cX3_workOut 212 = .ok (.aload_n 0, 1) := by decide +kernel
theorem dX3_workOut_213 : decode cX3_workOut 213 = .ok (.getfield 19, 3) := by decide +kernel
theorem dX3_workOut_216 : decode cX3_workOut 216 = .ok (.iload_n 1, 1) := by decide +kernel
theorem dX3_workOut_217 : decode cX3_workOut 217 = .ok (.iaload, 1) := by decide +kernel
theorem dX3_workOut_218 : decode cX3_workOut 218 = .ok (.invokestatic 42, 3) := by decide +kernel
theorem dX3_workOut_221 : decode cX3_workOut 221 = .ok (.iastore, 1) := by decide +kernel
theorem dX3_workOut_222 : decode cX3_workOut 222 = .ok (.iinc 2 1, 3) := by decide +kernel
theorem dX3_workOut_225 : decode cX3_workOut 225 = .ok (.goto (-221), 3) := by decide +kernel
theorem dX3_workOut_228 : decode cX3_workOut 228 = .ok (.iconst 0, 1) := by decide +kernel
theorem dX3_workOut_229 : decode cX3_workOut 229 = .ok (.ireturn, 1) := by decide +kernel
theorem dX3_valueOf_0 : decode cX3_valueOf 0 = .ok (.iload_n 1, 1) := by decide +kernel
theorem dX3_valueOf_1 : decode cX3_valueOf 1 = .ok (.ifCond .lt 18, 3) := by decide +kernel
theorem dX3_valueOf_4 : decode cX3_valueOf 4 = .ok (.iload_n 1, 1) := by decide +kernel
theorem dX3_valueOf_5 : decode cX3_valueOf 5 = .ok (.bipush 6, 2) := by decide +kernel
theorem dX3_valueOf_7 : decode cX3_valueOf 7 = .ok (.if_icmp .ge 12, 3) := by decide +kernel
theorem dX3_valueOf_10 : decode cX3_valueOf 10 = .ok (.aload_n 0, 1) := by decide +kernel
theorem dX3_valueOf_11 : decode cX3_valueOf 11 = .ok (.getfield 9, 3) := by decide +kernel
theorem dX3_valueOf_14 : decode cX3_valueOf 14 = .ok (.iload_n 1, 1) := by decide +kernel
theorem dX3_valueOf_15 : decode cX3_valueOf 15 = .ok (.iaload, 1) := by decide +kernel
theorem dX3_valueOf_16 : decode cX3_valueOf 16 = .ok (.goto 4, 3) := by decide +kernel
theorem dX3_valueOf_19 : decode cX3_valueOf 19 = .ok (.iconst 0, 1) := by decide +kernel
theorem dX3_valueOf_20 : decode cX3_valueOf 20 = .ok (.ireturn, 1) := by decide +kernel
theorem dX3_join_0 : decode cX3_join 0 = .ok (.iload_n 0, 1) := by decide +kernel
theorem dX3_join_1 : decode cX3_join 1 = .ok (.lookupswitch 168 #[(38, 97), (42, 152), (43, 144), (45, 148), (47, 156), (60, 111), (61, 122), (62, 133), (124, 83)], 83) := by decide +kernel
theorem dX3_join_84 : decode cX3_join 84 = .ok (.iload_n 1, 1) := by decide +kernel
theorem dX3_join_85 : decode cX3_join 85 = .ok (.ifCond .ne 7, 3) := by decide +kernel
theorem dX3_join_88 : decode cX3_join 88 = .ok (.iload_n 2, 1) := by decide +kernel
theorem dX3_join_89 : decode cX3_join 89 = .ok (.ifCond .eq 7, 3) := by decide +kernel
theorem dX3_join_92 : decode cX3_join 92 = .ok (.iconst 1, 1) := by decide +kernel
theorem dX3_join_93 : decode cX3_join 93 = .ok (.goto 4, 3) := by decide +kernel
theorem dX3_join_96 : decode cX3_join 96 = .ok (.iconst 0, 1) := by decide +kernel
theorem dX3_join_97 : decode cX3_join 97 = .ok (.ireturn, 1) := by decide +kernel
theorem dX3_join_98 : decode cX3_join 98 = .ok (.iload_n 1, 1) := by decide +kernel
theorem dX3_join_99 : decode cX3_join 99 = .ok (.ifCond .eq 11, 3) := by decide +kernel
theorem dX3_join_102 : decode cX3_join 102 = .ok (.iload_n 2, 1) := by decide +kernel
theorem dX3_join_103 : decode cX3_join 103 = .ok (.ifCond .eq 7, 3) := by decide +kernel
theorem dX3_join_106 : decode cX3_join 106 = .ok (.iconst 1, 1) := by decide +kernel
theorem dX3_join_107 : decode cX3_join 107 = .ok (.goto 4, 3) := by decide +kernel
theorem dX3_join_110 : decode cX3_join 110 = .ok (.iconst 0, 1) := by decide +kernel
theorem dX3_join_111 : decode cX3_join 111 = .ok (.ireturn, 1) := by decide +kernel
theorem dX3_join_112 : decode cX3_join 112 = .ok (.iload_n 1, 1) := by decide +kernel
theorem dX3_join_113 : decode cX3_join 113 = .ok (.iload_n 2, 1) := by decide +kernel
theorem dX3_join_114 : decode cX3_join 114 = .ok (.if_icmp .ge 7, 3) := by decide +kernel
theorem dX3_join_117 : decode cX3_join 117 = .ok (.iconst 1, 1) := by decide +kernel
theorem dX3_join_118 : decode cX3_join 118 = .ok (.goto 4, 3) := by decide +kernel
theorem dX3_join_121 : decode cX3_join 121 = .ok (.iconst 0, 1) := by decide +kernel
theorem dX3_join_122 : decode cX3_join 122 = .ok (.ireturn, 1) := by decide +kernel
theorem dX3_join_123 : decode cX3_join 123 = .ok (.iload_n 1, 1) := by decide +kernel
theorem dX3_join_124 : decode cX3_join 124 = .ok (.iload_n 2, 1) := by decide +kernel
theorem dX3_join_125 : decode cX3_join 125 = .ok (.if_icmp .ne 7, 3) := by decide +kernel
theorem dX3_join_128 : decode cX3_join 128 = .ok (.iconst 1, 1) := by decide +kernel
theorem dX3_join_129 : decode cX3_join 129 = .ok (.goto 4, 3) := by decide +kernel
theorem dX3_join_132 : decode cX3_join 132 = .ok (.iconst 0, 1) := by decide +kernel
theorem dX3_join_133 : decode cX3_join 133 = .ok (.ireturn, 1) := by decide +kernel
theorem dX3_join_134 : decode cX3_join 134 = .ok (.iload_n 1, 1) := by decide +kernel
theorem dX3_join_135 : decode cX3_join 135 = .ok (.iload_n 2, 1) := by decide +kernel
theorem dX3_join_136 : decode cX3_join 136 = .ok (.if_icmp .le 7, 3) := by decide +kernel
theorem dX3_join_139 : decode cX3_join 139 = .ok (.iconst 1, 1) := by decide +kernel
theorem dX3_join_140 : decode cX3_join 140 = .ok (.goto 4, 3) := by decide +kernel
theorem dX3_join_143 : decode cX3_join 143 = .ok (.iconst 0, 1) := by decide +kernel
theorem dX3_join_144 : decode cX3_join 144 = .ok (.ireturn, 1) := by decide +kernel
theorem dX3_join_145 : decode cX3_join 145 = .ok (.iload_n 1, 1) := by decide +kernel
theorem dX3_join_146 : decode cX3_join 146 = .ok (.iload_n 2, 1) := by decide +kernel
theorem dX3_join_147 : decode cX3_join 147 = .ok (.iadd, 1) := by decide +kernel
theorem dX3_join_148 : decode cX3_join 148 = .ok (.ireturn, 1) := by decide +kernel
theorem dX3_join_149 : decode cX3_join 149 = .ok (.iload_n 1, 1) := by decide +kernel
theorem dX3_join_150 : decode cX3_join 150 = .ok (.iload_n 2, 1) := by decide +kernel
theorem dX3_join_151 : decode cX3_join 151 = .ok (.isub, 1) := by decide +kernel
theorem dX3_join_152 : decode cX3_join 152 = .ok (.ireturn, 1) := by decide +kernel
theorem dX3_join_153 : decode cX3_join 153 = .ok (.iload_n 1, 1) := by decide +kernel
theorem dX3_join_154 : decode cX3_join 154 = .ok (.iload_n 2, 1) := by decide +kernel
theorem dX3_join_155 : decode cX3_join 155 = .ok (.imul, 1) := by decide +kernel
theorem dX3_join_156 : decode cX3_join 156 = .ok (.ireturn, 1) := by decide +kernel
theorem dX3_join_157 : decode cX3_join 157 = .ok (.iload_n 2, 1) := by decide +kernel
theorem dX3_join_158 : decode cX3_join 158 = .ok (.ifCond .ne 7, 3) := by decide +kernel
theorem dX3_join_161 : decode cX3_join 161 = .ok (.iconst 0, 1) := by decide +kernel
theorem dX3_join_162 : decode cX3_join 162 = .ok (.goto 6, 3) := by decide +kernel
theorem dX3_join_165 : decode cX3_join 165 = .ok (.iload_n 1, 1) := by decide +kernel
theorem dX3_join_166 : decode cX3_join 166 = .ok (.iload_n 2, 1) := by decide +kernel
theorem dX3_join_167 : decode cX3_join 167 = .ok (.idiv, 1) := by decide +kernel
theorem dX3_join_168 : decode cX3_join 168 = .ok (.ireturn, 1) := by decide +kernel
theorem dX3_join_169 : decode cX3_join 169 = .ok (.iload_n 2, 1) := by decide +kernel
theorem dX3_join_170 : decode cX3_join 170 = .ok (.ifCond .ne 7, 3) := by decide +kernel
theorem dX3_join_173 : decode cX3_join 173 = .ok (.iconst 0, 1) := by decide +kernel
theorem dX3_join_174 : decode cX3_join 174 = .ok (.goto 6, 3) := by decide +kernel
theorem dX3_join_177 : decode cX3_join 177 = .ok (.iload_n 1, 1) := by decide +kernel
theorem dX3_join_178 : decode cX3_join 178 = .ok (.iload_n 2, 1) := by decide +kernel
theorem dX3_join_179 : decode cX3_join 179 = .ok (.irem, 1) := by decide +kernel
theorem dX3_join_180 : decode cX3_join 180 = .ok (.ireturn, 1) := by decide +kernel
theorem dX4_init_0 : decode cX4_init 0 = .ok (.aload_n 0, 1) := by decide +kernel
theorem dX4_init_1 : decode cX4_init 1 = .ok (.invokespecial 3, 3) := by decide +kernel
theorem dX4_init_4 : decode cX4_init 4 = .ok (.aload_n 0, 1) := by decide +kernel
theorem dX4_init_5 : decode cX4_init 5 = .ok (.aload_n 1, 1) := by decide +kernel
theorem dX4_init_6 : decode cX4_init 6 = .ok (.putfield 9, 3) := by decide +kernel
theorem dX4_init_9 : decode cX4_init 9 = .ok (.aload_n 0, 1) := by decide +kernel
theorem dX4_init_10 : decode cX4_init 10 = .ok (.aload_n 2, 1) := by decide +kernel
theorem dX4_init_11 : decode cX4_init 11 = .ok (.putfield 15, 3) := by decide +kernel
theorem dX4_init_14 : decode cX4_init 14 = .ok (.return_, 1) := by decide +kernel
theorem dX4_mayBe_0 : decode cX4_mayBe 0 = .ok (.iload_n 0, 1) := by decide +kernel
theorem dX4_mayBe_1 : decode cX4_mayBe 1 = .ok (.ifCond .lt 41, 3) := by decide +kernel
theorem dX4_mayBe_4 : decode cX4_mayBe 4 = .ok (.iload_n 0, 1) := by decide +kernel
theorem dX4_mayBe_5 : decode cX4_mayBe 5 = .ok (.getstatic 19, 3) := by decide +kernel
theorem dX4_mayBe_8 : decode cX4_mayBe 8 = .ok (.arraylength, 1) := by decide +kernel
theorem dX4_mayBe_9 : decode cX4_mayBe 9 = .ok (.if_icmp .ge 33, 3) := by decide +kernel
theorem dX4_mayBe_12 : decode cX4_mayBe 12 = .ok (.iload_n 0, 1) := by decide +kernel
theorem dX4_mayBe_13 : decode cX4_mayBe 13 = .ok (.getstatic 23, 3) := by decide +kernel
theorem dX4_mayBe_16 : decode cX4_mayBe 16 = .ok (.arraylength, 1) := by decide +kernel
theorem dX4_mayBe_17 : decode cX4_mayBe 17 = .ok (.if_icmp .ge 25, 3) := by decide +kernel
theorem dX4_mayBe_20 : decode cX4_mayBe 20 = .ok (.iload_n 1, 1) := by decide +kernel
theorem dX4_mayBe_21 : decode cX4_mayBe 21 = .ok (.getstatic 19, 3) := by decide +kernel
theorem dX4_mayBe_24 : decode cX4_mayBe 24 = .ok (.iload_n 0, 1) := by decide +kernel
theorem dX4_mayBe_25 : decode cX4_mayBe 25 = .ok (.iaload, 1) := by decide +kernel
theorem dX4_mayBe_26 : decode cX4_mayBe 26 = .ok (.if_icmp .lt 16, 3) := by decide +kernel
theorem dX4_mayBe_29 : decode cX4_mayBe 29 = .ok (.iload_n 1, 1) := by decide +kernel
theorem dX4_mayBe_30 : decode cX4_mayBe 30 = .ok (.getstatic 23, 3) := by decide +kernel
theorem dX4_mayBe_33 : decode cX4_mayBe 33 = .ok (.iload_n 0, 1) := by decide +kernel
theorem dX4_mayBe_34 : decode cX4_mayBe 34 = .ok (.iaload, 1) := by decide +kernel
theorem dX4_mayBe_35 : decode cX4_mayBe 35 = .ok (.if_icmp .gt 7, 3) := by decide +kernel
theorem dX4_mayBe_38 : decode cX4_mayBe 38 = .ok (.iconst 1, 1) := by decide +kernel
theorem dX4_mayBe_39 : decode cX4_mayBe 39 = .ok (.goto 4, 3) := by decide +kernel
theorem dX4_mayBe_42 : decode cX4_mayBe 42 = .ok (.iconst 0, 1) := by decide +kernel
theorem dX4_mayBe_43 : decode cX4_mayBe 43 = .ok (.ireturn, 1) := by decide +kernel
theorem dX4_isThere_0 : decode cX4_isThere 0 = .ok (.iload_n 2, 1) := by decide +kernel
theorem dX4_isThere_1 : decode cX4_isThere 1 = .ok (.ifCond .lt 9, 3) := by decide +kernel
theorem dX4_isThere_4 : decode cX4_isThere 4 = .ok (.iload_n 2, 1) := by decide +kernel
theorem dX4_isThere_5 : decode cX4_isThere 5 = .ok (.bipush 11, 2) := by decide +kernel
theorem dX4_isThere_7 : decode cX4_isThere 7 = .ok (.if_icmp .le 5, 3) := by decide +kernel
theorem dX4_isThere_10 : decode cX4_isThere 10 = .ok (.iconst 0, 1) := by decide +kernel
theorem dX4_isThere_11 : decode cX4_isThere 11 = .ok (.ireturn, 1) := by decide +kernel
theorem dX4_isThere_12 : decode cX4_isThere 12 = .ok (.iload_n 2, 1) := by decide +kernel
theorem dX4_isThere_13 : decode cX4_isThere 13 = .ok (.ifCond .ne 12, 3) := by decide +kernel
theorem dX4_isThere_16 : decode cX4_isThere 16 = .ok (.aload_n 0, 1) := by decide +kernel
theorem dX4_isThere_17 : decode cX4_isThere 17 = .ok (.getfield 9, 3) := by decide +kernel
theorem dX4_isThere_20 : decode cX4_isThere 20 = .ok (.iload_n 1, 1) := by decide +kernel
theorem dX4_isThere_21 : decode cX4_isThere 21 = .ok (.invokevirtual 26, 3) := by decide +kernel
theorem dX4_isThere_24 : decode cX4_isThere 24 = .ok (.ireturn, 1) := by decide +kernel
theorem dX4_isThere_25 : decode cX4_isThere 25 = .ok (.iload_n 2, 1) := by decide +kernel
theorem dX4_isThere_26 : decode cX4_isThere 26 = .ok (.bipush 8, 2) := by decide +kernel
theorem dX4_isThere_28 : decode cX4_isThere 28 = .ok (.if_icmp .ge 14, 3) := by decide +kernel
theorem dX4_isThere_31 : decode cX4_isThere 31 = .ok (.aload_n 0, 1) := by decide +kernel
theorem dX4_isThere_32 : decode cX4_isThere 32 = .ok (.getfield 9, 3) := by decide +kernel
theorem dX4_isThere_35 : decode cX4_isThere 35 = .ok (.iload_n 1, 1) := by decide +kernel
theorem dX4_isThere_36 : decode cX4_isThere 36 = .ok (.invokevirtual 32, 3) := by decide +kernel
theorem dX4_isThere_39 : decode cX4_isThere 39 = .ok (.goto 12, 3) := by decide +kernel
theorem dX4_isThere_42 : decode cX4_isThere 42 = .ok (.iload_n 1, 1) := by decide +kernel
theorem dX4_isThere_43 : decode cX4_isThere 43 = .ok (.ifCond .ne 7, 3) := by decide +kernel
theorem dX4_isThere_46 : decode cX4_isThere 46 = .ok (.iconst 1, 1) := by decide +kernel
theorem dX4_isThere_47 : decode cX4_isThere 47 = .ok (.goto 4, 3) := by decide +kernel
theorem dX4_isThere_50 : decode cX4_isThere 50 = .ok (.iconst 0, 1) := by decide +kernel
theorem dX4_isThere_51 : decode cX4_isThere 51 = .ok (.ireturn, 1) := by decide +kernel
theorem dX4_read_0 : decode cX4_read 0 = .ok (.iload_n 2, 1) := by decide +kernel
theorem dX4_read_1 : decode cX4_read 1 = .ok (.tableswitch 63 8 11 #[31, 39, 47, 55], 31) := by decide +kernel
theorem dX4_read_32 : decode cX4_read 32 = .ok (.aload_n 0, 1) := by decide +kernel
theorem dX4_read_33 : decode cX4_read 33 = .ok (.getfield 15, 3) := by decide +kernel
theorem dX4_read_36 : decode cX4_read 36 = .ok (.getfield 35, 3) := by decide +kernel
theorem dX4_read_39 : decode cX4_read 39 = .ok (.ireturn, 1) := by decide +kernel
theorem dX4_read_40 : decode cX4_read 40 = .ok (.aload_n 0, 1) := by decide +kernel
theorem dX4_read_41 : decode cX4_read 41 = .ok (.getfield 9, 3) := by decide +kernel
theorem dX4_read_44 : decode cX4_read 44 = .ok (.getfield 41, 3) := by decide +kernel
theorem dX4_read_47 : decode cX4_read 47 = .ok (.ireturn, 1) := by decide +kernel
theorem dX4_read_48 : decode cX4_read 48 = .ok (.aload_n 0, 1) := by decide +kernel
theorem dX4_read_49 : decode cX4_read 49 = .ok (.getfield 9, 3) := by decide +kernel
theorem dX4_read_52 : decode cX4_read 52 = .ok (.getfield 44, 3) := by decide +kernel
theorem dX4_read_55 : decode cX4_read 55 = .ok (.ireturn, 1) := by decide +kernel
theorem dX4_read_56 : decode cX4_read 56 = .ok (.aload_n 0, 1) := by decide +kernel
theorem dX4_read_57 : decode cX4_read 57 = .ok (.getfield 15, 3) := by decide +kernel
theorem dX4_read_60 : decode cX4_read 60 = .ok (.getfield 47, 3) := by decide +kernel
theorem dX4_read_63 : decode cX4_read 63 = .ok (.ireturn, 1) := by decide +kernel
theorem dX4_read_64 : decode cX4_read 64 = .ok (.aload_n 0, 1) := by decide +kernel
theorem dX4_read_65 : decode cX4_read 65 = .ok (.iload_n 1, 1) := by decide +kernel
theorem dX4_read_66 : decode cX4_read 66 = .ok (.iload_n 2, 1) := by decide +kernel
theorem dX4_read_67 : decode cX4_read 67 = .ok (.invokevirtual 50, 3) := by decide +kernel
theorem dX4_read_70 : decode cX4_read 70 = .ok (.ifCond .eq 13, 3) := by decide +kernel
theorem dX4_read_73 : decode cX4_read 73 = .ok (.aload_n 0, 1) := by decide +kernel
theorem dX4_read_74 : decode cX4_read 74 = .ok (.iload_n 2, 1) := by decide +kernel
theorem dX4_read_75 : decode cX4_read 75 = .ok (.invokevirtual 54, 3) := by decide +kernel
theorem dX4_read_78 : decode cX4_read 78 = .ok (.iload_n 1, 1) := by decide +kernel
theorem dX4_read_79 : decode cX4_read 79 = .ok (.iaload, 1) := by decide +kernel
theorem dX4_read_80 : decode cX4_read 80 = .ok (.goto 4, 3) := by decide +kernel
theorem dX4_read_83 : decode cX4_read 83 = .ok (.iconst 0, 1) := by decide +kernel
theorem dX4_read_84 : decode cX4_read 84 = .ok (.ireturn, 1) := by decide +kernel
theorem dX4_write_0 : decode cX4_write 0 = .ok (.iload_n 2, 1) := by decide +kernel
theorem dX4_write_1 : decode cX4_write 1 = .ok (.tableswitch 75 8 11 #[31, 42, 53, 64], 31) := by decide +kernel
theorem dX4_write_32 : decode cX4_write 32 = .ok (.aload_n 0, 1) := by decide +kernel
theorem dX4_write_33 : decode cX4_write 33 = .ok (.getfield 15, 3) := by decide +kernel
theorem dX4_write_36 : decode cX4_write 36 = .ok (.iload_n 3, 1) := by decide +kernel
theorem dX4_write_37 : decode cX4_write 37 = .ok (.putfield 35, 3) := by decide +kernel
theorem dX4_write_40 : decode cX4_write 40 = .ok (.goto 53, 3) := by decide +kernel
theorem dX4_write_43 : decode cX4_write 43 = .ok (.aload_n 0, 1) := by decide +kernel
theorem dX4_write_44 : decode cX4_write 44 = .ok (.getfield 9, 3) := by decide +kernel
theorem dX4_write_47 : decode cX4_write 47 = .ok (.iload_n 3, 1) := by decide +kernel
theorem dX4_write_48 : decode cX4_write 48 = .ok (.putfield 41, 3) := by decide +kernel
theorem dX4_write_51 : decode cX4_write 51 = .ok (.goto 42, 3) := by decide +kernel
theorem dX4_write_54 : decode cX4_write 54 = .ok (.aload_n 0, 1) := by decide +kernel
theorem dX4_write_55 : decode cX4_write 55 = .ok (.getfield 9, 3) := by decide +kernel
theorem dX4_write_58 : decode cX4_write 58 = .ok (.iload_n 3, 1) := by decide +kernel
theorem dX4_write_59 : decode cX4_write 59 = .ok (.putfield 44, 3) := by decide +kernel
theorem dX4_write_62 : decode cX4_write 62 = .ok (.goto 31, 3) := by decide +kernel
theorem dX4_write_65 : decode cX4_write 65 = .ok (.aload_n 0, 1) := by decide +kernel
theorem dX4_write_66 : decode cX4_write 66 = .ok (.getfield 15, 3) := by decide +kernel
theorem dX4_write_69 : decode cX4_write 69 = .ok (.iload_n 3, 1) := by decide +kernel
theorem dX4_write_70 : decode cX4_write 70 = .ok (.putfield 47, 3) := by decide +kernel
theorem dX4_write_73 : decode cX4_write 73 = .ok (.goto 20, 3) := by decide +kernel
theorem dX4_write_76 : decode cX4_write 76 = .ok (.aload_n 0, 1) := by decide +kernel
theorem dX4_write_77 : decode cX4_write 77 = .ok (.iload_n 1, 1) := by decide +kernel
theorem dX4_write_78 : decode cX4_write 78 = .ok (.iload_n 2, 1) := by decide +kernel
theorem dX4_write_79 : decode cX4_write 79 = .ok (.invokevirtual 50, 3) := by decide +kernel
theorem dX4_write_82 : decode cX4_write 82 = .ok (.ifCond .eq 11, 3) := by decide +kernel
theorem dX4_write_85 : decode cX4_write 85 = .ok (.aload_n 0, 1) := by decide +kernel
theorem dX4_write_86 : decode cX4_write 86 = .ok (.iload_n 2, 1) := by decide +kernel
theorem dX4_write_87 : decode cX4_write 87 = .ok (.invokevirtual 54, 3) := by decide +kernel
theorem dX4_write_90 : decode cX4_write 90 = .ok (.iload_n 1, 1) := by decide +kernel
theorem dX4_write_91 : decode cX4_write 91 = .ok (.iload_n 3, 1) := by decide +kernel
theorem dX4_write_92 : decode cX4_write 92 = .ok (.iastore, 1) := by decide +kernel
theorem dX4_write_93 : decode cX4_write 93 = .ok (.return_, 1) := by decide +kernel
theorem dX4_listOf_0 : decode cX4_listOf 0 = .ok (.iload_n 1, 1) := by decide +kernel
theorem dX4_listOf_1 : decode cX4_listOf 1 = .ok (.tableswitch 99 0 6 #[43, 51, 59, 67, 75, 83, 91], 43) := by decide +kernel
theorem dX4_listOf_44 : decode cX4_listOf 44 = .ok (.aload_n 0, 1) := by decide +kernel
theorem dX4_listOf_45 : decode cX4_listOf 45 = .ok (.getfield 15, 3) := by decide +kernel
theorem dX4_listOf_48 : decode cX4_listOf 48 = .ok (.getfield 58, 3) := by decide +kernel
theorem dX4_listOf_51 : decode cX4_listOf 51 = .ok (.areturn, 1) := by decide +kernel
theorem dX4_listOf_52 : decode cX4_listOf 52 = .ok (.aload_n 0, 1) := by decide +kernel
theorem dX4_listOf_53 : decode cX4_listOf 53 = .ok (.getfield 9, 3) := by decide +kernel
theorem dX4_listOf_56 : decode cX4_listOf 56 = .ok (.getfield 61, 3) := by decide +kernel
theorem dX4_listOf_59 : decode cX4_listOf 59 = .ok (.areturn, 1) := by decide +kernel
theorem dX4_listOf_60 : decode cX4_listOf 60 = .ok (.aload_n 0, 1) := by decide +kernel
theorem dX4_listOf_61 : decode cX4_listOf 61 = .ok (.getfield 9, 3) := by decide +kernel
theorem dX4_listOf_64 : decode cX4_listOf 64 = .ok (.getfield 64, 3) := by decide +kernel
theorem dX4_listOf_67 : decode cX4_listOf 67 = .ok (.areturn, 1) := by decide +kernel
theorem dX4_listOf_68 : decode cX4_listOf 68 = .ok (.aload_n 0, 1) := by decide +kernel
theorem dX4_listOf_69 : decode cX4_listOf 69 = .ok (.getfield 9, 3) := by decide +kernel
theorem dX4_listOf_72 : decode cX4_listOf 72 = .ok (.getfield 67, 3) := by decide +kernel
theorem dX4_listOf_75 : decode cX4_listOf 75 = .ok (.areturn, 1) := by decide +kernel
theorem dX4_listOf_76 : decode cX4_listOf 76 = .ok (.aload_n 0, 1) := by decide +kernel
theorem dX4_listOf_77 : decode cX4_listOf 77 = .ok (.getfield 9, 3) := by decide +kernel
theorem dX4_listOf_80 : decode cX4_listOf 80 = .ok (.getfield 70, 3) := by decide +kernel
theorem dX4_listOf_83 : decode cX4_listOf 83 = .ok (.areturn, 1) := by decide +kernel
theorem dX4_listOf_84 : decode cX4_listOf 84 = .ok (.aload_n 0, 1) := by decide +kernel
theorem dX4_listOf_85 : decode cX4_listOf 85 = .ok (.getfield 9, 3) := by decide +kernel
theorem dX4_listOf_88 : decode cX4_listOf 88 = .ok (.getfield 73, 3) := by decide +kernel
theorem dX4_listOf_91 : decode cX4_listOf 91 = .ok (.areturn, 1) := by decide +kernel
theorem dX4_listOf_92 : decode cX4_listOf 92 = .ok (.aload_n 0, 1) := by decide +kernel
theorem dX4_listOf_93 : decode cX4_listOf 93 = .ok (.getfield 15, 3) := by decide +kernel
theorem dX4_listOf_96 : decode cX4_listOf 96 = .ok (.getfield 76, 3) := by decide +kernel
theorem dX4_listOf_99 : decode cX4_listOf 99 = .ok (.areturn, 1) := by decide +kernel
theorem dX4_listOf_100 : decode cX4_listOf 100 = .ok (.aload_n 0, 1) := by decide +kernel
theorem dX4_listOf_101 : decode cX4_listOf 101 = .ok (.getfield 15, 3) := by decide +kernel
theorem dX4_listOf_104 : decode cX4_listOf 104 = .ok (.getfield 79, 3) := by decide +kernel
theorem dX4_listOf_107 : decode cX4_listOf 107 = .ok (.areturn, 1) := by decide +kernel
theorem dX5_init_0 : decode cX5_init 0 = .ok (.aload_n 0, 1) := by decide +kernel
theorem dX5_init_1 : decode cX5_init 1 = .ok (.invokespecial 3, 3) := by decide +kernel
theorem dX5_init_4 : decode cX5_init 4 = .ok (.aload_n 0, 1) := by decide +kernel
theorem dX5_init_5 : decode cX5_init 5 = .ok (.bipush 6, 2) := by decide +kernel
theorem dX5_init_7 : decode cX5_init 7 = .ok (.newarray .int, 2) := by decide +kernel
theorem dX5_init_9 : decode cX5_init 9 = .ok (.putfield 11, 3) := by decide +kernel
theorem dX5_init_12 : decode cX5_init 12 = .ok (.aload_n 0, 1) := by decide +kernel
theorem dX5_init_13 : decode cX5_init 13 = .ok (.bipush 6, 2) := by decide +kernel
theorem dX5_init_15 : decode cX5_init 15 = .ok (.newarray .int, 2) := by decide +kernel
theorem dX5_init_17 : decode cX5_init 17 = .ok (.putfield 15, 3) := by decide +kernel
theorem dX5_init_20 : decode cX5_init 20 = .ok (.aload_n 0, 1) := by decide +kernel
theorem dX5_init_21 : decode cX5_init 21 = .ok (.sipush 360, 3) := by decide +kernel
theorem dX5_init_24 : decode cX5_init 24 = .ok (.newarray .long, 2) := by decide +kernel
theorem dX5_init_26 : decode cX5_init 26 = .ok (.putfield 18, 3) := by decide +kernel
theorem dX5_init_29 : decode cX5_init 29 = .ok (.iconst 0, 1) := by decide +kernel
theorem dX5_init_30 : decode cX5_init 30 = .ok (.istore_n 1, 1) := by decide +kernel
theorem dX5_init_31 : decode cX5_init 31 = .ok (.iload_n 1, 1) := by decide +kernel
theorem dX5_init_32 : decode cX5_init 32 = .ok (.bipush 6, 2) := by decide +kernel
theorem dX5_init_34 : decode cX5_init 34 = .ok (.if_icmp .ge 17, 3) := by decide +kernel
theorem dX5_init_37 : decode cX5_init 37 = .ok (.aload_n 0, 1) := by decide +kernel
theorem dX5_init_38 : decode cX5_init 38 = .ok (.getfield 11, 3) := by decide +kernel
theorem dX5_init_41 : decode cX5_init 41 = .ok (.iload_n 1, 1) := by decide +kernel
theorem dX5_init_42 : decode cX5_init 42 = .ok (.bipush 6, 2) := by decide +kernel
theorem dX5_init_44 : decode cX5_init 44 = .ok (.iastore, 1) := by decide +kernel
theorem dX5_init_45 : decode cX5_init 45 = .ok (.iinc 1 1, 3) := by decide +kernel
theorem dX5_init_48 : decode cX5_init 48 = .ok (.goto (-17), 3) := by decide +kernel
theorem dX5_init_51 : decode cX5_init 51 = .ok (.return_, 1) := by decide +kernel
theorem dX5_isShelf_0 : decode cX5_isShelf 0 = .ok (.iload_n 0, 1) := by decide +kernel
theorem dX5_isShelf_1 : decode cX5_isShelf 1 = .ok (.ifCond .lt 13, 3) := by decide +kernel
theorem dX5_isShelf_4 : decode cX5_isShelf 4 = .ok (.iload_n 0, 1) := by decide +kernel
theorem dX5_isShelf_5 : decode cX5_isShelf 5 = .ok (.bipush 6, 2) := by decide +kernel
theorem dX5_isShelf_7 : decode cX5_isShelf 7 = .ok (.if_icmp .ge 7, 3) := by decide +kernel
theorem dX5_isShelf_10 : decode cX5_isShelf 10 = .ok (.iconst 1, 1) := by decide +kernel
theorem dX5_isShelf_11 : decode cX5_isShelf 11 = .ok (.goto 4, 3) := by decide +kernel
theorem dX5_isShelf_14 : decode cX5_isShelf 14 = .ok (.iconst 0, 1) := by decide +kernel
theorem dX5_isShelf_15 : decode cX5_isShelf 15 = .ok (.ireturn, 1) := by decide +kernel
theorem dX5_isEmpty_0 : decode cX5_isEmpty 0 = .ok (.iload_n 1, 1) := by decide +kernel
theorem dX5_isEmpty_1 : decode cX5_isEmpty 1 = .ok (.invokestatic 22, 3) := by decide +kernel
theorem dX5_isEmpty_4 : decode cX5_isEmpty 4 = .ok (.ifCond .eq 14, 3) := by decide +kernel
theorem dX5_isEmpty_7 : decode cX5_isEmpty 7 = .ok (.aload_n 0, 1) := by decide +kernel
theorem dX5_isEmpty_8 : decode cX5_isEmpty 8 = .ok (.getfield 11, 3) := by decide +kernel
theorem dX5_isEmpty_11 : decode cX5_isEmpty 11 = .ok (.iload_n 1, 1) := by decide +kernel
theorem dX5_isEmpty_12 : decode cX5_isEmpty 12 = .ok (.iaload, 1) := by decide +kernel
theorem dX5_isEmpty_13 : decode cX5_isEmpty 13 = .ok (.bipush 6, 2) := by decide +kernel
theorem dX5_isEmpty_15 : decode cX5_isEmpty 15 = .ok (.if_icmp .ne 7, 3) := by decide +kernel
theorem dX5_isEmpty_18 : decode cX5_isEmpty 18 = .ok (.iconst 1, 1) := by decide +kernel
theorem dX5_isEmpty_19 : decode cX5_isEmpty 19 = .ok (.goto 4, 3) := by decide +kernel
theorem dX5_isEmpty_22 : decode cX5_isEmpty 22 = .ok (.iconst 0, 1) := by decide +kernel
theorem dX5_isEmpty_23 : decode cX5_isEmpty 23 = .ok (.ireturn, 1) := by decide +kernel
theorem dX5_isRow_0 : decode cX5_isRow 0 = .ok (.iload_n 1, 1) := by decide +kernel
theorem dX5_isRow_1 : decode cX5_isRow 1 = .ok (.ifCond .lt 23, 3) := by decide +kernel
theorem dX5_isRow_4 : decode cX5_isRow 4 = .ok (.iload_n 1, 1) := by decide +kernel
theorem dX5_isRow_5 : decode cX5_isRow 5 = .ok (.bipush 6, 2) := by decide +kernel
theorem dX5_isRow_7 : decode cX5_isRow 7 = .ok (.if_icmp .ge 17, 3) := by decide +kernel
theorem dX5_isRow_10 : decode cX5_isRow 10 = .ok (.aload_n 0, 1) := by decide +kernel
theorem dX5_isRow_11 : decode cX5_isRow 11 = .ok (.getfield 11, 3) := by decide +kernel
theorem dX5_isRow_14 : decode cX5_isRow 14 = .ok (.iload_n 1, 1) := by decide +kernel
theorem dX5_isRow_15 : decode cX5_isRow 15 = .ok (.iaload, 1) := by decide +kernel
theorem dX5_isRow_16 : decode cX5_isRow 16 = .ok (.iconst 5, 1) := by decide +kernel
theorem dX5_isRow_17 : decode cX5_isRow 17 = .ok (.if_icmp .ge 7, 3) := by decide +kernel
theorem dX5_isRow_20 : decode cX5_isRow 20 = .ok (.iconst 1, 1) := by decide +kernel
theorem dX5_isRow_21 : decode cX5_isRow 21 = .ok (.goto 4, 3) := by decide +kernel
theorem dX5_isRow_24 : decode cX5_isRow 24 = .ok (.iconst 0, 1) := by decide +kernel
theorem dX5_isRow_25 : decode cX5_isRow 25 = .ok (.ireturn, 1) := by decide +kernel
theorem dX5_bodyOn_0 : decode cX5_bodyOn 0 = .ok (.iload_n 1, 1) := by decide +kernel
theorem dX5_bodyOn_1 : decode cX5_bodyOn 1 = .ok (.invokestatic 22, 3) := by decide +kernel
theorem dX5_bodyOn_4 : decode cX5_bodyOn 4 = .ok (.ifCond .eq 22, 3) := by decide +kernel
theorem dX5_bodyOn_7 : decode cX5_bodyOn 7 = .ok (.aload_n 0, 1) := by decide +kernel
theorem dX5_bodyOn_8 : decode cX5_bodyOn 8 = .ok (.getfield 11, 3) := by decide +kernel
theorem dX5_bodyOn_11 : decode cX5_bodyOn 11 = .ok (.iload_n 1, 1) := by decide +kernel
theorem dX5_bodyOn_12 : decode cX5_bodyOn 12 = .ok (.iaload, 1) := by decide +kernel
theorem dX5_bodyOn_13 : decode cX5_bodyOn 13 = .ok (.iconst 5, 1) := by decide +kernel
theorem dX5_bodyOn_14 : decode cX5_bodyOn 14 = .ok (.if_icmp .ne 12, 3) := by decide +kernel
theorem dX5_bodyOn_17 : decode cX5_bodyOn 17 = .ok (.aload_n 0, 1) := by decide +kernel
theorem dX5_bodyOn_18 : decode cX5_bodyOn 18 = .ok (.getfield 15, 3) := by decide +kernel
theorem dX5_bodyOn_21 : decode cX5_bodyOn 21 = .ok (.iload_n 1, 1) := by decide +kernel
theorem dX5_bodyOn_22 : decode cX5_bodyOn 22 = .ok (.iaload, 1) := by decide +kernel
theorem dX5_bodyOn_23 : decode cX5_bodyOn 23 = .ok (.goto 4, 3) := by decide +kernel
theorem dX5_bodyOn_26 : decode cX5_bodyOn 26 = .ok (.iconst (-1), 1) := by decide +kernel
theorem dX5_bodyOn_27 : decode cX5_bodyOn 27 = .ok (.ireturn, 1) := by decide +kernel
theorem dX5_lengthOf_0 : decode cX5_lengthOf 0 = .ok (.aload_n 0, 1) := by decide +kernel
theorem dX5_lengthOf_1 : decode cX5_lengthOf 1 = .ok (.iload_n 1, 1) := by decide +kernel
theorem dX5_lengthOf_2 : decode cX5_lengthOf 2 = .ok (.invokevirtual 26, 3) := by decide +kernel
theorem dX5_lengthOf_5 : decode cX5_lengthOf 5 = .ok (.ifCond .eq 12, 3) := by decide +kernel
theorem dX5_lengthOf_8 : decode cX5_lengthOf 8 = .ok (.aload_n 0, 1) := by decide +kernel
theorem dX5_lengthOf_9 : decode cX5_lengthOf 9 = .ok (.getfield 15, 3) := by decide +kernel
theorem dX5_lengthOf_12 : decode cX5_lengthOf 12 = .ok (.iload_n 1, 1) := by decide +kernel
theorem dX5_lengthOf_13 : decode cX5_lengthOf 13 = .ok (.iaload, 1) := by decide +kernel
theorem dX5_lengthOf_14 : decode cX5_lengthOf 14 = .ok (.goto 4, 3) := by decide +kernel
theorem dX5_lengthOf_17 : decode cX5_lengthOf 17 = .ok (.iconst 0, 1) := by decide +kernel
theorem dX5_lengthOf_18 : decode cX5_lengthOf 18 = .ok (.ireturn, 1) := by decide +kernel
theorem dX5_empty_0 : decode cX5_empty 0 = .ok (.iload_n 1, 1) := by decide +kernel
theorem dX5_empty_1 : decode cX5_empty 1 = .ok (.invokestatic 22, 3) := by decide +kernel
theorem dX5_empty_4 : decode cX5_empty 4 = .ok (.ifCond .eq 11, 3) := by decide +kernel
theorem dX5_empty_7 : decode cX5_empty 7 = .ok (.aload_n 0, 1) := by decide +kernel
theorem dX5_empty_8 : decode cX5_empty 8 = .ok (.getfield 11, 3) := by decide +kernel
theorem dX5_empty_11 : decode cX5_empty 11 = .ok (.iload_n 1, 1) := by decide +kernel
theorem dX5_empty_12 : decode cX5_empty 12 = .ok (.bipush 6, 2) := by decide +kernel
theorem dX5_empty_14 : decode cX5_empty 14 = .ok (.iastore, 1) := by decide +kernel
theorem dX5_empty_15 : decode cX5_empty 15 = .ok (.return_, 1) := by decide +kernel
theorem dX5_layBody_0 : decode cX5_layBody 0 = .ok (.iload_n 1, 1) := by decide +kernel
theorem dX5_layBody_1 : decode cX5_layBody 1 = .ok (.invokestatic 22, 3) := by decide +kernel
theorem dX5_layBody_4 : decode cX5_layBody 4 = .ok (.ifCond .ne 4, 3) := by decide +kernel
theorem dX5_layBody_7 : decode cX5_layBody 7 = .ok (.return_, 1) := by decide +kernel
theorem dX5_layBody_8 : decode cX5_layBody 8 = .ok (.aload_n 0, 1) := by decide +kernel
theorem dX5_layBody_9 : decode cX5_layBody 9 = .ok (.getfield 11, 3) := by decide +kernel
theorem dX5_layBody_12 : decode cX5_layBody 12 = .ok (.iload_n 1, 1) := by decide +kernel
theorem dX5_layBody_13 : decode cX5_layBody 13 = .ok (.iconst 5, 1) := by decide +kernel
theorem dX5_layBody_14 : decode cX5_layBody 14 = .ok (.iastore, 1) := by decide +kernel
theorem dX5_layBody_15 : decode cX5_layBody 15 = .ok (.aload_n 0, 1) := by decide +kernel
theorem dX5_layBody_16 : decode cX5_layBody 16 = .ok (.getfield 15, 3) := by decide +kernel
theorem dX5_layBody_19 : decode cX5_layBody 19 = .ok (.iload_n 1, 1) := by decide +kernel
theorem dX5_layBody_20 : decode cX5_layBody 20 = .ok (.iload_n 2, 1) := by decide +kernel
theorem dX5_layBody_21 : decode cX5_layBody 21 = .ok (.iastore, 1) := by decide +kernel
theorem dX5_layBody_22 : decode cX5_layBody 22 = .ok (.return_, 1) := by decide +kernel
theorem dX5_layRow_0 : decode cX5_layRow 0 = .ok (.iload_n 1, 1) := by decide +kernel
theorem dX5_layRow_1 : decode cX5_layRow 1 = .ok (.invokestatic 22, 3) := by decide +kernel
theorem dX5_layRow_4 : decode cX5_layRow 4 = .ok (.ifCond .eq 13, 3) := by decide +kernel
theorem dX5_layRow_7 : decode cX5_layRow 7 = .ok (.iload_n 3, 1) := by decide +kernel
theorem dX5_layRow_8 : decode cX5_layRow 8 = .ok (.ifCond .lt 9, 3) := by decide +kernel
theorem dX5_layRow_11 : decode cX5_layRow 11 = .ok (.iload_n 3, 1) := by decide +kernel
theorem dX5_layRow_12 : decode cX5_layRow 12 = .ok (.bipush 60, 2) := by decide +kernel
theorem dX5_layRow_14 : decode cX5_layRow 14 = .ok (.if_icmp .le 4, 3) := by decide +kernel
theorem dX5_layRow_17 : decode cX5_layRow 17 = .ok (.return_, 1) := by decide +kernel
theorem dX5_layRow_18 : decode cX5_layRow 18 = .ok (.aload_n 0, 1) := by decide +kernel
theorem dX5_layRow_19 : decode cX5_layRow 19 = .ok (.getfield 11, 3) := by decide +kernel
theorem dX5_layRow_22 : decode cX5_layRow 22 = .ok (.iload_n 1, 1) := by decide +kernel
theorem dX5_layRow_23 : decode cX5_layRow 23 = .ok (.iload_n 2, 1) := by decide +kernel
theorem dX5_layRow_24 : decode cX5_layRow 24 = .ok (.iastore, 1) := by decide +kernel
theorem dX5_layRow_25 : decode cX5_layRow 25 = .ok (.aload_n 0, 1) := by decide +kernel
theorem dX5_layRow_26 : decode cX5_layRow 26 = .ok (.getfield 15, 3) := by decide +kernel
theorem dX5_layRow_29 : decode cX5_layRow 29 = .ok (.iload_n 1, 1) := by decide +kernel
theorem dX5_layRow_30 : decode cX5_layRow 30 = .ok (.iload_n 3, 1) := by decide +kernel
theorem dX5_layRow_31 : decode cX5_layRow 31 = .ok (.iastore, 1) := by decide +kernel
theorem dX5_layRow_32 : decode cX5_layRow 32 = .ok (.iconst 0, 1) := by decide +kernel
theorem dX5_layRow_33 : decode cX5_layRow 33 = .ok (.istore 4, 2) := by decide +kernel
theorem dX5_layRow_35 : decode cX5_layRow 35 = .ok (.iload 4, 2) := by decide +kernel
theorem dX5_layRow_37 : decode cX5_layRow 37 = .ok (.iload_n 3, 1) := by decide +kernel
theorem dX5_layRow_38 : decode cX5_layRow 38 = .ok (.if_icmp .ge 22, 3) := by decide +kernel
theorem dX5_layRow_41 : decode cX5_layRow 41 = .ok (.aload_n 0, 1) := by decide +kernel
theorem dX5_layRow_42 : decode cX5_layRow 42 = .ok (.getfield 18, 3) := by decide +kernel
theorem dX5_layRow_45 : decode cX5_layRow 45 = .ok (.iload_n 1, 1) := by decide +kernel
theorem dX5_layRow_46 : decode cX5_layRow 46 = .ok (.bipush 60, 2) := by decide +kernel
theorem dX5_layRow_48 : decode cX5_layRow 48 = .ok (.imul, 1) := by decide +kernel
theorem dX5_layRow_49 : decode cX5_layRow 49 = .ok (.iload 4, 2) := by decide +kernel
theorem dX5_layRow_51 : decode cX5_layRow 51 = .ok (.iadd, 1) := by decide +kernel
theorem dX5_layRow_52 : decode cX5_layRow 52 = .ok (.lconst 0, 1) := by decide +kernel
theorem dX5_layRow_53 : decode cX5_layRow 53 = .ok (.lastore, 1) := by decide +kernel
theorem dX5_layRow_54 : decode cX5_layRow 54 = .ok (.iinc 4 1, 3) := by decide +kernel
theorem dX5_layRow_57 : decode cX5_layRow 57 = .ok (.goto (-22), 3) := by decide +kernel
theorem dX5_layRow_60 : decode cX5_layRow 60 = .ok (.return_, 1) := by decide +kernel
theorem dX5_refuseRow_0 : decode cX5_refuseRow 0 = .ok (.iload_n 1, 1) := by decide +kernel
theorem dX5_refuseRow_1 : decode cX5_refuseRow 1 = .ok (.invokestatic 22, 3) := by decide +kernel
theorem dX5_refuseRow_4 : decode cX5_refuseRow 4 = .ok (.ifCond .ne 5, 3) := by decide +kernel
theorem dX5_refuseRow_7 : decode cX5_refuseRow 7 = .ok (.iconst (-1), 1) := by decide +kernel
theorem dX5_refuseRow_8 : decode cX5_refuseRow 8 = .ok (.ireturn, 1) := by decide +kernel
theorem dX5_refuseRow_9 : decode cX5_refuseRow 9 = .ok (.aload_n 0, 1) := by decide +kernel
theorem dX5_refuseRow_10 : decode cX5_refuseRow 10 = .ok (.iload_n 1, 1) := by decide +kernel
theorem dX5_refuseRow_11 : decode cX5_refuseRow 11 = .ok (.invokevirtual 29, 3) := by decide +kernel
theorem dX5_refuseRow_14 : decode cX5_refuseRow 14 = .ok (.ifCond .eq 6, 3) := by decide +kernel
theorem dX5_refuseRow_17 : decode cX5_refuseRow 17 = .ok (.bipush (-11), 2) := by decide +kernel
theorem dX5_refuseRow_19 : decode cX5_refuseRow 19 = .ok (.ireturn, 1) := by decide +kernel
theorem dX5_refuseRow_20 : decode cX5_refuseRow 20 = .ok (.aload_n 0, 1) := by decide +kernel
theorem dX5_refuseRow_21 : decode cX5_refuseRow 21 = .ok (.iload_n 1, 1) := by decide +kernel
theorem dX5_refuseRow_22 : decode cX5_refuseRow 22 = .ok (.invokevirtual 26, 3) := by decide +kernel
theorem dX5_refuseRow_25 : decode cX5_refuseRow 25 = .ok (.ifCond .eq 7, 3) := by decide +kernel
theorem dX5_refuseRow_28 : decode cX5_refuseRow 28 = .ok (.iconst 0, 1) := by decide +kernel
theorem dX5_refuseRow_29 : decode cX5_refuseRow 29 = .ok (.goto 5, 3) := by decide +kernel
theorem dX5_refuseRow_32 : decode cX5_refuseRow 32 = .ok (.bipush (-12), 2) := by decide +kernel
theorem dX5_refuseRow_34 : decode cX5_refuseRow 34 = .ok (.ireturn, 1) := by decide +kernel
theorem dX5_refuseBytes_0 : decode cX5_refuseBytes 0 = .ok (.aload_n 0, 1) := by decide +kernel
theorem dX5_refuseBytes_1 : decode cX5_refuseBytes 1 = .ok (.iload_n 1, 1) := by decide +kernel
theorem dX5_refuseBytes_2 : decode cX5_refuseBytes 2 = .ok (.invokevirtual 32, 3) := by decide +kernel
theorem dX5_refuseBytes_5 : decode cX5_refuseBytes 5 = .ok (.istore_n 2, 1) := by decide +kernel
theorem dX5_refuseBytes_6 : decode cX5_refuseBytes 6 = .ok (.iload_n 2, 1) := by decide +kernel
theorem dX5_refuseBytes_7 : decode cX5_refuseBytes 7 = .ok (.ifCond .eq 5, 3) := by decide +kernel
theorem dX5_refuseBytes_10 : decode cX5_refuseBytes 10 = .ok (.iload_n 2, 1) := by decide +kernel
theorem dX5_refuseBytes_11 : decode cX5_refuseBytes 11 = .ok (.ireturn, 1) := by decide +kernel
theorem dX5_refuseBytes_12 : decode cX5_refuseBytes 12 = .ok (.aload_n 0, 1) := by decide +kernel
theorem dX5_refuseBytes_13 : decode cX5_refuseBytes 13 = .ok (.getfield 11, 3) := by decide +kernel
theorem dX5_refuseBytes_16 : decode cX5_refuseBytes 16 = .ok (.iload_n 1, 1) := by decide +kernel
theorem dX5_refuseBytes_17 : decode cX5_refuseBytes 17 = .ok (.iaload, 1) := by decide +kernel
theorem dX5_refuseBytes_18 : decode cX5_refuseBytes 18 = .ok (.ifCond .ne 7, 3) := by decide +kernel
theorem dX5_refuseBytes_21 : decode cX5_refuseBytes 21 = .ok (.iconst 0, 1) := by decide +kernel
theorem dX5_refuseBytes_22 : decode cX5_refuseBytes 22 = .ok (.goto 5, 3) := by decide +kernel
theorem dX5_refuseBytes_25 : decode cX5_refuseBytes 25 = .ok (.bipush (-12), 2) := by decide +kernel
theorem dX5_refuseBytes_27 : decode cX5_refuseBytes 27 = .ok (.ireturn, 1) := by decide +kernel
theorem dX5_refusePlace_0 : decode cX5_refusePlace 0 = .ok (.aload_n 0, 1) := by decide +kernel
theorem dX5_refusePlace_1 : decode cX5_refusePlace 1 = .ok (.iload_n 1, 1) := by decide +kernel
theorem dX5_refusePlace_2 : decode cX5_refusePlace 2 = .ok (.invokevirtual 32, 3) := by decide +kernel
theorem dX5_refusePlace_5 : decode cX5_refusePlace 5 = .ok (.istore_n 3, 1) := by decide +kernel
theorem dX5_refusePlace_6 : decode cX5_refusePlace 6 = .ok (.iload_n 3, 1) := by decide +kernel
theorem dX5_refusePlace_7 : decode cX5_refusePlace 7 = .ok (.ifCond .eq 5, 3) := by decide +kernel
theorem dX5_refusePlace_10 : decode cX5_refusePlace 10 = .ok (.iload_n 3, 1) := by decide +kernel
theorem dX5_refusePlace_11 : decode cX5_refusePlace 11 = .ok (.ireturn, 1) := by decide +kernel
theorem dX5_refusePlace_12 : decode cX5_refusePlace 12 = .ok (.aload_n 0, 1) := by decide +kernel
theorem dX5_refusePlace_13 : decode cX5_refusePlace 13 = .ok (.iload_n 1, 1) := by decide +kernel
theorem dX5_refusePlace_14 : decode cX5_refusePlace 14 = .ok (.iload_n 2, 1) := by decide +kernel
theorem dX5_refusePlace_15 : decode cX5_refusePlace 15 = .ok (.iconst 1, 1) := by decide +kernel
theorem dX5_refusePlace_16 : decode cX5_refusePlace 16 = .ok (.invokevirtual 36, 3) := by decide +kernel
theorem dX5_refusePlace_19 : decode cX5_refusePlace 19 = .ok (.ifCond .eq 7, 3) := by decide +kernel
theorem dX5_refusePlace_22 : decode cX5_refusePlace 22 = .ok (.iconst 0, 1) := by decide +kernel
theorem dX5_refusePlace_23 : decode cX5_refusePlace 23 = .ok (.goto 5, 3) := by decide +kernel
theorem dX5_refusePlace_26 : decode cX5_refusePlace 26 = .ok (.bipush (-13), 2) := by decide +kernel
theorem dX5_refusePlace_28 : decode cX5_refusePlace 28 = .ok (.ireturn, 1) := by decide +kernel
theorem dX5_refusePair_0 : decode cX5_refusePair 0 = .ok (.iload_n 1, 1) := by decide +kernel
theorem dX5_refusePair_1 : decode cX5_refusePair 1 = .ok (.invokestatic 22, 3) := by decide +kernel
theorem dX5_refusePair_4 : decode cX5_refusePair 4 = .ok (.ifCond .eq 10, 3) := by decide +kernel
theorem dX5_refusePair_7 : decode cX5_refusePair 7 = .ok (.iload_n 2, 1) := by decide +kernel
theorem dX5_refusePair_8 : decode cX5_refusePair 8 = .ok (.invokestatic 22, 3) := by decide +kernel
theorem dX5_refusePair_11 : decode cX5_refusePair 11 = .ok (.ifCond .ne 5, 3) := by decide +kernel
theorem dX5_refusePair_14 : decode cX5_refusePair 14 = .ok (.iconst (-1), 1) := by decide +kernel
theorem dX5_refusePair_15 : decode cX5_refusePair 15 = .ok (.ireturn, 1) := by decide +kernel
theorem dX5_refusePair_16 : decode cX5_refusePair 16 = .ok (.aload_n 0, 1) := by decide +kernel
theorem dX5_refusePair_17 : decode cX5_refusePair 17 = .ok (.iload_n 1, 1) := by decide +kernel
theorem dX5_refusePair_18 : decode cX5_refusePair 18 = .ok (.invokevirtual 29, 3) := by decide +kernel
theorem dX5_refusePair_21 : decode cX5_refusePair 21 = .ok (.ifCond .ne 11, 3) := by decide +kernel
theorem dX5_refusePair_24 : decode cX5_refusePair 24 = .ok (.aload_n 0, 1) := by decide +kernel
theorem dX5_refusePair_25 : decode cX5_refusePair 25 = .ok (.iload_n 2, 1) := by decide +kernel
theorem dX5_refusePair_26 : decode cX5_refusePair 26 = .ok (.invokevirtual 29, 3) := by decide +kernel
theorem dX5_refusePair_29 : decode cX5_refusePair 29 = .ok (.ifCond .eq 6, 3) := by decide +kernel
theorem dX5_refusePair_32 : decode cX5_refusePair 32 = .ok (.bipush (-11), 2) := by decide +kernel
theorem dX5_refusePair_34 : decode cX5_refusePair 34 = .ok (.ireturn, 1) := by decide +kernel
theorem dX5_refusePair_35 : decode cX5_refusePair 35 = .ok (.aload_n 0, 1) := by decide +kernel
theorem dX5_refusePair_36 : decode cX5_refusePair 36 = .ok (.iload_n 1, 1) := by decide +kernel
theorem dX5_refusePair_37 : decode cX5_refusePair 37 = .ok (.invokevirtual 26, 3) := by decide +kernel
theorem dX5_refusePair_40 : decode cX5_refusePair 40 = .ok (.ifCond .eq 22, 3) := by decide +kernel
theorem dX5_refusePair_43 : decode cX5_refusePair 43 = .ok (.aload_n 0, 1) := by decide +kernel
theorem dX5_refusePair_44 : decode cX5_refusePair 44 = .ok (.getfield 11, 3) := by decide +kernel
theorem dX5_refusePair_47 : decode cX5_refusePair 47 = .ok (.iload_n 1, 1) := by decide +kernel
theorem dX5_refusePair_48 : decode cX5_refusePair 48 = .ok (.iaload, 1) := by decide +kernel
theorem dX5_refusePair_49 : decode cX5_refusePair 49 = .ok (.aload_n 0, 1) := by decide +kernel
theorem dX5_refusePair_50 : decode cX5_refusePair 50 = .ok (.getfield 11, 3) := by decide +kernel
theorem dX5_refusePair_53 : decode cX5_refusePair 53 = .ok (.iload_n 2, 1) := by decide +kernel
theorem dX5_refusePair_54 : decode cX5_refusePair 54 = .ok (.iaload, 1) := by decide +kernel
theorem dX5_refusePair_55 : decode cX5_refusePair 55 = .ok (.if_icmp .ne 7, 3) := by decide +kernel
theorem dX5_refusePair_58 : decode cX5_refusePair 58 = .ok (.iconst 0, 1) := by decide +kernel
theorem dX5_refusePair_59 : decode cX5_refusePair 59 = .ok (.goto 5, 3) := by decide +kernel
theorem dX5_refusePair_62 : decode cX5_refusePair 62 = .ok (.bipush (-12), 2) := by decide +kernel
theorem dX5_refusePair_64 : decode cX5_refusePair 64 = .ok (.ireturn, 1) := by decide +kernel
theorem dX5_hasRun_0 : decode cX5_hasRun 0 = .ok (.iload_n 2, 1) := by decide +kernel
theorem dX5_hasRun_1 : decode cX5_hasRun 1 = .ok (.ifCond .lt 22, 3) := by decide +kernel
theorem dX5_hasRun_4 : decode cX5_hasRun 4 = .ok (.iload_n 3, 1) := by decide +kernel
theorem dX5_hasRun_5 : decode cX5_hasRun 5 = .ok (.ifCond .lt 18, 3) := by decide +kernel
theorem dX5_hasRun_8 : decode cX5_hasRun 8 = .ok (.iload_n 2, 1) := by decide +kernel
theorem dX5_hasRun_9 : decode cX5_hasRun 9 = .ok (.aload_n 0, 1) := by decide +kernel
theorem dX5_hasRun_10 : decode cX5_hasRun 10 = .ok (.iload_n 1, 1) := by decide +kernel
theorem dX5_hasRun_11 : decode cX5_hasRun 11 = .ok (.invokevirtual 40, 3) := by decide +kernel
theorem dX5_hasRun_14 : decode cX5_hasRun 14 = .ok (.iload_n 3, 1) := by decide +kernel
theorem dX5_hasRun_15 : decode cX5_hasRun 15 = .ok (.isub, 1) := by decide +kernel
theorem dX5_hasRun_16 : decode cX5_hasRun 16 = .ok (.if_icmp .gt 7, 3) := by decide +kernel
theorem dX5_hasRun_19 : decode cX5_hasRun 19 = .ok (.iconst 1, 1) := by decide +kernel
theorem dX5_hasRun_20 : decode cX5_hasRun 20 = .ok (.goto 4, 3) := by decide +kernel
theorem dX5_hasRun_23 : decode cX5_hasRun 23 = .ok (.iconst 0, 1) := by decide +kernel
theorem dX5_hasRun_24 : decode cX5_hasRun 24 = .ok (.ireturn, 1) := by decide +kernel
theorem dX5_cell_0 : decode cX5_cell 0 = .ok (.aload_n 0, 1) := by decide +kernel
theorem dX5_cell_1 : decode cX5_cell 1 = .ok (.iload_n 1, 1) := by decide +kernel
theorem dX5_cell_2 : decode cX5_cell 2 = .ok (.invokevirtual 26, 3) := by decide +kernel
theorem dX5_cell_5 : decode cX5_cell 5 = .ok (.ifCond .eq 27, 3) := by decide +kernel
theorem dX5_cell_8 : decode cX5_cell 8 = .ok (.aload_n 0, 1) := by decide +kernel
theorem dX5_cell_9 : decode cX5_cell 9 = .ok (.iload_n 1, 1) := by decide +kernel
theorem dX5_cell_10 : decode cX5_cell 10 = .ok (.iload_n 2, 1) := by decide +kernel
theorem dX5_cell_11 : decode cX5_cell 11 = .ok (.iconst 1, 1) := by decide +kernel
theorem dX5_cell_12 : decode cX5_cell 12 = .ok (.invokevirtual 36, 3) := by decide +kernel
theorem dX5_cell_15 : decode cX5_cell 15 = .ok (.ifCond .eq 17, 3) := by decide +kernel
theorem dX5_cell_18 : decode cX5_cell 18 = .ok (.aload_n 0, 1) := by decide +kernel
theorem dX5_cell_19 : decode cX5_cell 19 = .ok (.getfield 18, 3) := by decide +kernel
theorem dX5_cell_22 : decode cX5_cell 22 = .ok (.iload_n 1, 1) := by decide +kernel
theorem dX5_cell_23 : decode cX5_cell 23 = .ok (.bipush 60, 2) := by decide +kernel
theorem dX5_cell_25 : decode cX5_cell 25 = .ok (.imul, 1) := by decide +kernel
theorem dX5_cell_26 : decode cX5_cell 26 = .ok (.iload_n 2, 1) := by decide +kernel
theorem dX5_cell_27 : decode cX5_cell 27 = .ok (.iadd, 1) := by decide +kernel
theorem dX5_cell_28 : decode cX5_cell 28 = .ok (.laload, 1) := by decide +kernel
theorem dX5_cell_29 : decode cX5_cell 29 = .ok (.goto 4, 3) := by decide +kernel
theorem dX5_cell_32 : decode cX5_cell 32 = .ok (.lconst 0, 1) := by decide +kernel
theorem dX5_cell_33 : decode cX5_cell 33 = .ok (.lreturn, 1) := by decide +kernel
theorem dX5_setCell_0 : decode cX5_setCell 0 = .ok (.aload_n 0, 1) := by decide +kernel
theorem dX5_setCell_1 : decode cX5_setCell 1 = .ok (.iload_n 1, 1) := by decide +kernel
theorem dX5_setCell_2 : decode cX5_setCell 2 = .ok (.invokevirtual 26, 3) := by decide +kernel
theorem dX5_setCell_5 : decode cX5_setCell 5 = .ok (.ifCond .eq 34, 3) := by decide +kernel
theorem dX5_setCell_8 : decode cX5_setCell 8 = .ok (.aload_n 0, 1) := by decide +kernel
theorem dX5_setCell_9 : decode cX5_setCell 9 = .ok (.iload_n 1, 1) := by decide +kernel
theorem dX5_setCell_10 : decode cX5_setCell 10 = .ok (.iload_n 2, 1) := by decide +kernel
theorem dX5_setCell_11 : decode cX5_setCell 11 = .ok (.iconst 1, 1) := by decide +kernel
theorem dX5_setCell_12 : decode cX5_setCell 12 = .ok (.invokevirtual 36, 3) := by decide +kernel
theorem dX5_setCell_15 : decode cX5_setCell 15 = .ok (.ifCond .eq 24, 3) := by decide +kernel
theorem dX5_setCell_18 : decode cX5_setCell 18 = .ok (.aload_n 0, 1) := by decide +kernel
theorem dX5_setCell_19 : decode cX5_setCell 19 = .ok (.getfield 18, 3) := by decide +kernel
theorem dX5_setCell_22 : decode cX5_setCell 22 = .ok (.iload_n 1, 1) := by decide +kernel
theorem dX5_setCell_23 : decode cX5_setCell 23 = .ok (.bipush 60, 2) := by decide +kernel
theorem dX5_setCell_25 : decode cX5_setCell 25 = .ok (.imul, 1) := by decide +kernel
theorem dX5_setCell_26 : decode cX5_setCell 26 = .ok (.iload_n 2, 1) := by decide +kernel
theorem dX5_setCell_27 : decode cX5_setCell 27 = .ok (.iadd, 1) := by decide +kernel
theorem dX5_setCell_28 : decode cX5_setCell 28 = .ok (.aload_n 0, 1) := by decide +kernel
theorem dX5_setCell_29 : decode cX5_setCell 29 = .ok (.getfield 11, 3) := by decide +kernel
theorem dX5_setCell_32 : decode cX5_setCell 32 = .ok (.iload_n 1, 1) := by decide +kernel
theorem dX5_setCell_33 : decode cX5_setCell 33 = .ok (.iaload, 1) := by decide +kernel
theorem dX5_setCell_34 : decode cX5_setCell 34 = .ok (.lload_n 3, 1) := by decide +kernel
theorem dX5_setCell_35 : decode cX5_setCell 35 = .ok (.invokestatic 43, 3) := by decide +kernel
theorem dX5_setCell_38 : decode cX5_setCell 38 = .ok (.lastore, 1) := by decide +kernel
theorem dX5_setCell_39 : decode cX5_setCell 39 = .ok (.return_, 1) := by decide +kernel
theorem dX5_copyRun_0 : decode cX5_copyRun 0 = .ok (.aload_n 0, 1) := by decide +kernel
theorem dX5_copyRun_1 : decode cX5_copyRun 1 = .ok (.iload_n 1, 1) := by decide +kernel
theorem dX5_copyRun_2 : decode cX5_copyRun 2 = .ok (.invokevirtual 26, 3) := by decide +kernel
theorem dX5_copyRun_5 : decode cX5_copyRun 5 = .ok (.ifCond .eq 34, 3) := by decide +kernel
theorem dX5_copyRun_8 : decode cX5_copyRun 8 = .ok (.aload_n 0, 1) := by decide +kernel
theorem dX5_copyRun_9 : decode cX5_copyRun 9 = .ok (.iload_n 3, 1) := by decide +kernel
theorem dX5_copyRun_10 : decode cX5_copyRun 10 = .ok (.invokevirtual 26, 3) := by decide +kernel
theorem dX5_copyRun_13 : decode cX5_copyRun 13 = .ok (.ifCond .eq 26, 3) := by decide +kernel
theorem dX5_copyRun_16 : decode cX5_copyRun 16 = .ok (.aload_n 0, 1) := by decide +kernel
theorem dX5_copyRun_17 : decode cX5_copyRun 17 = .ok (.iload_n 1, 1) := by decide +kernel
theorem dX5_copyRun_18 : decode cX5_copyRun 18 = .ok (.iload_n 2, 1) := by decide +kernel
theorem dX5_copyRun_19 : decode cX5_copyRun 19 = .ok (.iload 5, 2) := by decide +kernel
theorem dX5_copyRun_21 : decode cX5_copyRun 21 = .ok (.invokevirtual 36, 3) := by decide +kernel
theorem dX5_copyRun_24 : decode cX5_copyRun 24 = .ok (.ifCond .eq 15, 3) := by decide +kernel
theorem dX5_copyRun_27 : decode cX5_copyRun 27 = .ok (.aload_n 0, 1) := by decide +kernel
theorem dX5_copyRun_28 : decode cX5_copyRun 28 = .ok (.iload_n 3, 1) := by decide +kernel
theorem dX5_copyRun_29 : decode cX5_copyRun 29 = .ok (.iload 4, 2) := by decide +kernel
theorem dX5_copyRun_31 : decode cX5_copyRun 31 = .ok (.iload 5, 2) := by decide +kernel
theorem dX5_copyRun_33 : decode cX5_copyRun 33 = .ok (.invokevirtual 36, 3) := by decide +kernel
theorem dX5_copyRun_36 : decode cX5_copyRun 36 = .ok (.ifCond .ne 4, 3) := by decide +kernel
theorem dX5_copyRun_39 : decode cX5_copyRun 39 = .ok (.return_, 1) := by decide +kernel
theorem dX5_copyRun_40 : decode cX5_copyRun 40 = .ok (.aload_n 0, 1) := by decide +kernel
theorem dX5_copyRun_41 : decode cX5_copyRun 41 = .ok (.getfield 18, 3) := by decide +kernel
theorem dX5_copyRun_44 : decode cX5_copyRun 44 = .ok (.iload_n 1, 1) := by decide +kernel
theorem dX5_copyRun_45 : decode cX5_copyRun 45 = .ok (.bipush 60, 2) := by decide +kernel
theorem dX5_copyRun_47 : decode cX5_copyRun 47 = .ok (.imul, 1) := by decide +kernel
theorem dX5_copyRun_48 : decode cX5_copyRun 48 = .ok (.iload_n 2, 1) := by decide +kernel
theorem dX5_copyRun_49 : decode cX5_copyRun 49 = .ok (.iadd, 1) := by decide +kernel
theorem dX5_copyRun_50 : decode cX5_copyRun 50 = .ok (.aload_n 0, 1) := by decide +kernel
theorem dX5_copyRun_51 : decode cX5_copyRun 51 = .ok (.getfield 18, 3) := by decide +kernel
theorem dX5_copyRun_54 : decode cX5_copyRun 54 = .ok (.iload_n 3, 1) := by decide +kernel
theorem dX5_copyRun_55 : decode cX5_copyRun 55 = .ok (.bipush 60, 2) := by decide +kernel
theorem dX5_copyRun_57 : decode cX5_copyRun 57 = .ok (.imul, 1) := by decide +kernel
theorem dX5_copyRun_58 : decode cX5_copyRun 58 = .ok (.iload 4, 2) := by decide +kernel
theorem dX5_copyRun_60 : decode cX5_copyRun 60 = .ok (.iadd, 1) := by decide +kernel
theorem dX5_copyRun_61 : decode cX5_copyRun 61 = .ok (.iload 5, 2) := by decide +kernel
theorem dX5_copyRun_63 : decode cX5_copyRun 63 = .ok (.invokestatic 47, 3) := by decide +kernel
theorem dX5_copyRun_66 : decode cX5_copyRun 66 = .ok (.return_, 1) := by decide +kernel
theorem dX5_cut_0 : decode cX5_cut 0 = .ok (.iload_n 0, 1) := by decide +kernel
theorem dX5_cut_1 : decode cX5_cut 1 = .ok (.tableswitch 61 0 4 #[35, 40, 45, 61, 49], 35) := by decide +kernel
theorem dX5_cut_36 : decode cX5_cut 36 = .ok (.lload_n 1, 1) := by decide +kernel
theorem dX5_cut_37 : decode cX5_cut 37 = .ok (.l2i, 1) := by decide +kernel
theorem dX5_cut_38 : decode cX5_cut 38 = .ok (.i2b, 1) := by decide +kernel
theorem dX5_cut_39 : decode cX5_cut 39 = .ok (.i2l, 1) := by decide +kernel
theorem dX5_cut_40 : decode cX5_cut 40 = .ok (.lreturn, 1) := by decide +kernel
theorem dX5_cut_41 : decode cX5_cut 41 = .ok (.lload_n 1, 1) := by decide +kernel
theorem dX5_cut_42 : decode cX5_cut 42 = .ok (.l2i, 1) := by decide +kernel
theorem dX5_cut_43 : decode cX5_cut 43 = .ok (.i2s, 1) := by decide +kernel
theorem dX5_cut_44 : decode cX5_cut 44 = .ok (.i2l, 1) := by decide +kernel
theorem dX5_cut_45 : decode cX5_cut 45 = .ok (.lreturn, 1) := by decide +kernel
theorem dX5_cut_46 : decode cX5_cut 46 = .ok (.lload_n 1, 1) := by decide +kernel
theorem dX5_cut_47 : decode cX5_cut 47 = .ok (.l2i, 1) := by decide +kernel
theorem dX5_cut_48 : decode cX5_cut 48 = .ok (.i2l, 1) := by decide +kernel
theorem dX5_cut_49 : decode cX5_cut 49 = .ok (.lreturn, 1) := by decide +kernel
theorem dX5_cut_50 : decode cX5_cut 50 = .ok (.lload_n 1, 1) := by decide +kernel
theorem dX5_cut_51 : decode cX5_cut 51 = .ok (.lconst 0, 1) := by decide +kernel
theorem dX5_cut_52 : decode cX5_cut 52 = .ok (.lcmp, 1) := by decide +kernel
theorem dX5_cut_53 : decode cX5_cut 53 = .ok (.ifCond .eq 7, 3) := by decide +kernel
theorem dX5_cut_56 : decode cX5_cut 56 = .ok (.lconst 1, 1) := by decide +kernel
theorem dX5_cut_57 : decode cX5_cut 57 = .ok (.goto 4, 3) := by decide +kernel
theorem dX5_cut_60 : decode cX5_cut 60 = .ok (.lconst 0, 1) := by decide +kernel
theorem dX5_cut_61 : decode cX5_cut 61 = .ok (.lreturn, 1) := by decide +kernel
theorem dX5_cut_62 : decode cX5_cut 62 = .ok (.lload_n 1, 1) := by decide +kernel
theorem dX5_cut_63 : decode cX5_cut 63 = .ok (.lreturn, 1) := by decide +kernel
theorem dX6_init_0 : decode cX6_init 0 = .ok (.aload_n 0, 1) := by decide +kernel
theorem dX6_init_1 : decode cX6_init 1 = .ok (.invokespecial 3, 3) := by decide +kernel
theorem dX6_init_4 : decode cX6_init 4 = .ok (.aload_n 0, 1) := by decide +kernel
theorem dX6_init_5 : decode cX6_init 5 = .ok (.bipush 10, 2) := by decide +kernel
theorem dX6_init_7 : decode cX6_init 7 = .ok (.newarray .int, 2) := by decide +kernel
theorem dX6_init_9 : decode cX6_init 9 = .ok (.putfield 9, 3) := by decide +kernel
theorem dX6_init_12 : decode cX6_init 12 = .ok (.aload_n 0, 1) := by decide +kernel
theorem dX6_init_13 : decode cX6_init 13 = .ok (.aload_n 1, 1) := by decide +kernel
theorem dX6_init_14 : decode cX6_init 14 = .ok (.putfield 15, 3) := by decide +kernel
theorem dX6_init_17 : decode cX6_init 17 = .ok (.aload_n 0, 1) := by decide +kernel
theorem dX6_init_18 : decode cX6_init 18 = .ok (.aload_n 2, 1) := by decide +kernel
theorem dX6_init_19 : decode cX6_init 19 = .ok (.putfield 19, 3) := by decide +kernel
theorem dX6_init_22 : decode cX6_init 22 = .ok (.aload_n 0, 1) := by decide +kernel
theorem dX6_init_23 : decode cX6_init 23 = .ok (.aload_n 3, 1) := by decide +kernel
theorem dX6_init_24 : decode cX6_init 24 = .ok (.putfield 23, 3) := by decide +kernel
theorem dX6_init_27 : decode cX6_init 27 = .ok (.return_, 1) := by decide +kernel
theorem dX6_howMuch_0 : decode cX6_howMuch 0 = .ok (.aload_n 0, 1) := by decide +kernel
theorem dX6_howMuch_1 : decode cX6_howMuch 1 = .ok (.getfield 19, 3) := by decide +kernel
theorem dX6_howMuch_4 : decode cX6_howMuch 4 = .ok (.iload_n 1, 1) := by decide +kernel
theorem dX6_howMuch_5 : decode cX6_howMuch 5 = .ok (.invokevirtual 27, 3) := by decide +kernel
theorem dX6_howMuch_8 : decode cX6_howMuch 8 = .ok (.iload_n 2, 1) := by decide +kernel
theorem dX6_howMuch_9 : decode cX6_howMuch 9 = .ok (.invokestatic 33, 3) := by decide +kernel
theorem dX6_howMuch_12 : decode cX6_howMuch 12 = .ok (.istore_n 3, 1) := by decide +kernel
theorem dX6_howMuch_13 : decode cX6_howMuch 13 = .ok (.aload_n 0, 1) := by decide +kernel
theorem dX6_howMuch_14 : decode cX6_howMuch 14 = .ok (.iload_n 1, 1) := by decide +kernel
theorem dX6_howMuch_15 : decode cX6_howMuch 15 = .ok (.invokevirtual 37, 3) := by decide +kernel
theorem dX6_howMuch_18 : decode cX6_howMuch 18 = .ok (.istore 4, 2) := by decide +kernel
theorem dX6_howMuch_20 : decode cX6_howMuch 20 = .ok (.aload_n 0, 1) := by decide +kernel
theorem dX6_howMuch_21 : decode cX6_howMuch 21 = .ok (.getfield 23, 3) := by decide +kernel
theorem dX6_howMuch_24 : decode cX6_howMuch 24 = .ok (.invokevirtual 40, 3) := by decide +kernel
theorem dX6_howMuch_27 : decode cX6_howMuch 27 = .ok (.ifCond .eq 14, 3) := by decide +kernel
theorem dX6_howMuch_30 : decode cX6_howMuch 30 = .ok (.aload_n 0, 1) := by decide +kernel
theorem dX6_howMuch_31 : decode cX6_howMuch 31 = .ok (.iload_n 1, 1) := by decide +kernel
theorem dX6_howMuch_32 : decode cX6_howMuch 32 = .ok (.iload_n 3, 1) := by decide +kernel
theorem dX6_howMuch_33 : decode cX6_howMuch 33 = .ok (.iload 4, 2) := by decide +kernel
theorem dX6_howMuch_35 : decode cX6_howMuch 35 = .ok (.invokevirtual 46, 3) := by decide +kernel
theorem dX6_howMuch_38 : decode cX6_howMuch 38 = .ok (.goto 19, 3) := by decide +kernel
theorem dX6_howMuch_41 : decode cX6_howMuch 41 = .ok (.aload_n 0, 1) := by decide +kernel
theorem dX6_howMuch_42 : decode cX6_howMuch 42 = .ok (.getfield 15, 3) := by decide +kernel
theorem dX6_howMuch_45 : decode cX6_howMuch 45 = .ok (.getfield 50, 3) := by decide +kernel
theorem dX6_howMuch_48 : decode cX6_howMuch 48 = .ok (.iload_n 1, 1) := by decide +kernel
theorem dX6_howMuch_49 : decode cX6_howMuch 49 = .ok (.iaload, 1) := by decide +kernel
theorem dX6_howMuch_50 : decode cX6_howMuch 50 = .ok (.iload 4, 2) := by decide +kernel
theorem dX6_howMuch_52 : decode cX6_howMuch 52 = .ok (.iadd, 1) := by decide +kernel
theorem dX6_howMuch_53 : decode cX6_howMuch 53 = .ok (.iconst 2, 1) := by decide +kernel
theorem dX6_howMuch_54 : decode cX6_howMuch 54 = .ok (.iload_n 3, 1) := by decide +kernel
theorem dX6_howMuch_55 : decode cX6_howMuch 55 = .ok (.imul, 1) := by decide +kernel
theorem dX6_howMuch_56 : decode cX6_howMuch 56 = .ok (.isub, 1) := by decide +kernel
theorem dX6_howMuch_57 : decode cX6_howMuch 57 = .ok (.istore 5, 2) := by decide +kernel
theorem dX6_howMuch_59 : decode cX6_howMuch 59 = .ok (.iconst 0, 1) := by decide +kernel
theorem dX6_howMuch_60 : decode cX6_howMuch 60 = .ok (.bipush 9, 2) := by decide +kernel
theorem dX6_howMuch_62 : decode cX6_howMuch 62 = .ok (.iload 5, 2) := by decide +kernel
theorem dX6_howMuch_64 : decode cX6_howMuch 64 = .ok (.invokestatic 55, 3) := by decide +kernel
theorem dX6_howMuch_67 : decode cX6_howMuch 67 = .ok (.invokestatic 60, 3) := by decide +kernel
theorem dX6_howMuch_70 : decode cX6_howMuch 70 = .ok (.ireturn, 1) := by decide +kernel
theorem dX6_byText_0 : decode cX6_byText 0 = .ok (.aload_n 0, 1) := by decide +kernel
theorem dX6_byText_1 : decode cX6_byText 1 = .ok (.getfield 23, 3) := by decide +kernel
theorem dX6_byText_4 : decode cX6_byText 4 = .ok (.getfield 63, 3) := by decide +kernel
theorem dX6_byText_7 : decode cX6_byText 7 = .ok (.astore 4, 2) := by decide +kernel
theorem dX6_byText_9 : decode cX6_byText 9 = .ok (.aload 4, 2) := by decide +kernel
theorem dX6_byText_11 : decode cX6_byText 11 = .ok (.arraylength, 1) := by decide +kernel
theorem dX6_byText_12 : decode cX6_byText 12 = .ok (.bipush 6, 2) := by decide +kernel
theorem dX6_byText_14 : decode cX6_byText 14 = .ok (.if_icmp .ge 5, 3) := by decide +kernel
theorem dX6_byText_17 : decode cX6_byText 17 = .ok (.iconst 0, 1) := by decide +kernel
theorem dX6_byText_18 : decode cX6_byText 18 = .ok (.ireturn, 1) := by decide +kernel
theorem dX6_byText_19 : decode cX6_byText 19 = .ok (.aload 4, 2) := by decide +kernel
theorem dX6_byText_21 : decode cX6_byText 21 = .ok (.iconst 0, 1) := by decide +kernel
theorem dX6_byText_22 : decode cX6_byText 22 = .ok (.aload_n 0, 1) := by decide +kernel
theorem dX6_byText_23 : decode cX6_byText 23 = .ok (.getfield 15, 3) := by decide +kernel
theorem dX6_byText_26 : decode cX6_byText 26 = .ok (.getfield 50, 3) := by decide +kernel
theorem dX6_byText_29 : decode cX6_byText 29 = .ok (.iload_n 1, 1) := by decide +kernel
theorem dX6_byText_30 : decode cX6_byText 30 = .ok (.iaload, 1) := by decide +kernel
theorem dX6_byText_31 : decode cX6_byText 31 = .ok (.iastore, 1) := by decide +kernel
theorem dX6_byText_32 : decode cX6_byText 32 = .ok (.aload 4, 2) := by decide +kernel
theorem dX6_byText_34 : decode cX6_byText 34 = .ok (.iconst 1, 1) := by decide +kernel
theorem dX6_byText_35 : decode cX6_byText 35 = .ok (.iload_n 2, 1) := by decide +kernel
theorem dX6_byText_36 : decode cX6_byText 36 = .ok (.iastore, 1) := by decide +kernel
theorem dX6_byText_37 : decode cX6_byText 37 = .ok (.aload 4, 2) := by decide +kernel
theorem dX6_byText_39 : decode cX6_byText 39 = .ok (.iconst 2, 1) := by decide +kernel
theorem dX6_byText_40 : decode cX6_byText 40 = .ok (.aload_n 0, 1) := by decide +kernel
theorem dX6_byText_41 : decode cX6_byText 41 = .ok (.getfield 15, 3) := by decide +kernel
theorem dX6_byText_44 : decode cX6_byText 44 = .ok (.getfield 66, 3) := by decide +kernel
theorem dX6_byText_47 : decode cX6_byText 47 = .ok (.iload_n 1, 1) := by decide +kernel
theorem dX6_byText_48 : decode cX6_byText 48 = .ok (.iaload, 1) := by decide +kernel
theorem dX6_byText_49 : decode cX6_byText 49 = .ok (.iastore, 1) := by decide +kernel
theorem dX6_byText_50 : decode cX6_byText 50 = .ok (.aload 4, 2) := by decide +kernel
theorem dX6_byText_52 : decode cX6_byText 52 = .ok (.iconst 3, 1) := by decide +kernel
theorem dX6_byText_53 : decode cX6_byText 53 = .ok (.iload_n 3, 1) := by decide +kernel
theorem dX6_byText_54 : decode cX6_byText 54 = .ok (.iastore, 1) := by decide +kernel
theorem dX6_byText_55 : decode cX6_byText 55 = .ok (.aload 4, 2) := by decide +kernel
theorem dX6_byText_57 : decode cX6_byText 57 = .ok (.iconst 4, 1) := by decide +kernel
theorem dX6_byText_58 : decode cX6_byText 58 = .ok (.aload_n 0, 1) := by decide +kernel
theorem dX6_byText_59 : decode cX6_byText 59 = .ok (.getfield 15, 3) := by decide +kernel
theorem dX6_byText_62 : decode cX6_byText 62 = .ok (.getfield 69, 3) := by decide +kernel
theorem dX6_byText_65 : decode cX6_byText 65 = .ok (.iload_n 1, 1) := by decide +kernel
theorem dX6_byText_66 : decode cX6_byText 66 = .ok (.iaload, 1) := by decide +kernel
theorem dX6_byText_67 : decode cX6_byText 67 = .ok (.iastore, 1) := by decide +kernel
theorem dX6_byText_68 : decode cX6_byText 68 = .ok (.aload 4, 2) := by decide +kernel
theorem dX6_byText_70 : decode cX6_byText 70 = .ok (.iconst 5, 1) := by decide +kernel
theorem dX6_byText_71 : decode cX6_byText 71 = .ok (.aload_n 0, 1) := by decide +kernel
theorem dX6_byText_72 : decode cX6_byText 72 = .ok (.getfield 19, 3) := by decide +kernel
theorem dX6_byText_75 : decode cX6_byText 75 = .ok (.getfield 72, 3) := by decide +kernel
theorem dX6_byText_78 : decode cX6_byText 78 = .ok (.iastore, 1) := by decide +kernel
theorem dX6_byText_79 : decode cX6_byText 79 = .ok (.aload_n 0, 1) := by decide +kernel
theorem dX6_byText_80 : decode cX6_byText 80 = .ok (.getfield 23, 3) := by decide +kernel
theorem dX6_byText_83 : decode cX6_byText 83 = .ok (.invokevirtual 76, 3) := by decide +kernel
theorem dX6_byText_86 : decode cX6_byText 86 = .ok (.ireturn, 1) := by decide +kernel
theorem dX6_othersRunning_0 : decode cX6_othersRunning 0 = .ok (.iconst 0, 1) := by decide +kernel
theorem dX6_othersRunning_1 : decode cX6_othersRunning 1 = .ok (.istore_n 2, 1) := by decide +kernel
theorem dX6_othersRunning_2 : decode cX6_othersRunning 2 = .ok (.iconst 0, 1) := by decide +kernel
theorem dX6_othersRunning_3 : decode cX6_othersRunning 3 = .ok (.istore_n 3, 1) := by decide +kernel
theorem dX6_othersRunning_4 : decode cX6_othersRunning 4 = .ok (.iload_n 3, 1) := by decide +kernel
theorem dX6_othersRunning_5 : decode cX6_othersRunning 5 = .ok (.aload_n 0, 1) := by decide +kernel
theorem dX6_othersRunning_6 : decode cX6_othersRunning 6 = .ok (.getfield 15, 3) := by decide +kernel
theorem dX6_othersRunning_9 : decode cX6_othersRunning 9 = .ok (.getfield 80, 3) := by decide +kernel
theorem dX6_othersRunning_12 : decode cX6_othersRunning 12 = .ok (.if_icmp .ge 47, 3) := by decide +kernel
theorem dX6_othersRunning_15 : decode cX6_othersRunning 15 = .ok (.iload_n 3, 1) := by decide +kernel
theorem dX6_othersRunning_16 : decode cX6_othersRunning 16 = .ok (.iload_n 1, 1) := by decide +kernel
theorem dX6_othersRunning_17 : decode cX6_othersRunning 17 = .ok (.if_icmp .eq 36, 3) := by decide +kernel
theorem dX6_othersRunning_20 : decode cX6_othersRunning 20 = .ok (.aload_n 0, 1) := by decide +kernel
theorem dX6_othersRunning_21 : decode cX6_othersRunning 21 = .ok (.getfield 19, 3) := by decide +kernel
theorem dX6_othersRunning_24 : decode cX6_othersRunning 24 = .ok (.iload_n 3, 1) := by decide +kernel
theorem dX6_othersRunning_25 : decode cX6_othersRunning 25 = .ok (.invokevirtual 83, 3) := by decide +kernel
theorem dX6_othersRunning_28 : decode cX6_othersRunning 28 = .ok (.ifCond .eq 25, 3) := by decide +kernel
theorem dX6_othersRunning_31 : decode cX6_othersRunning 31 = .ok (.aload_n 0, 1) := by decide +kernel
theorem dX6_othersRunning_32 : decode cX6_othersRunning 32 = .ok (.getfield 19, 3) := by decide +kernel
theorem dX6_othersRunning_35 : decode cX6_othersRunning 35 = .ok (.iload_n 3, 1) := by decide +kernel
theorem dX6_othersRunning_36 : decode cX6_othersRunning 36 = .ok (.invokevirtual 27, 3) := by decide +kernel
theorem dX6_othersRunning_39 : decode cX6_othersRunning 39 = .ok (.aload_n 0, 1) := by decide +kernel
theorem dX6_othersRunning_40 : decode cX6_othersRunning 40 = .ok (.getfield 19, 3) := by decide +kernel
theorem dX6_othersRunning_43 : decode cX6_othersRunning 43 = .ok (.iload_n 1, 1) := by decide +kernel
theorem dX6_othersRunning_44 : decode cX6_othersRunning 44 = .ok (.invokevirtual 27, 3) := by decide +kernel
theorem dX6_othersRunning_47 : decode cX6_othersRunning 47 = .ok (.if_icmp .ne 6, 3) := by decide +kernel
theorem dX6_othersRunning_50 : decode cX6_othersRunning 50 = .ok (.iinc 2 1, 3) := by decide +kernel
theorem dX6_othersRunning_53 : decode cX6_othersRunning 53 = .ok (.iinc 3 1, 3) := by decide +kernel
theorem dX6_othersRunning_56 : decode cX6_othersRunning 56 = .ok (.goto (-52), 3) := by decide +kernel
theorem dX6_othersRunning_59 : decode cX6_othersRunning 59 = .ok (.iload_n 2, 1) := by decide +kernel
theorem dX6_othersRunning_60 : decode cX6_othersRunning 60 = .ok (.ireturn, 1) := by decide +kernel
theorem dX6_housesSmelling_0 : decode cX6_housesSmelling 0 = .ok (.aload_n 0, 1) := by decide +kernel
theorem dX6_housesSmelling_1 : decode cX6_housesSmelling 1 = .ok (.getfield 19, 3) := by decide +kernel
theorem dX6_housesSmelling_4 : decode cX6_housesSmelling 4 = .ok (.iload_n 1, 1) := by decide +kernel
theorem dX6_housesSmelling_5 : decode cX6_housesSmelling 5 = .ok (.invokevirtual 83, 3) := by decide +kernel
theorem dX6_housesSmelling_8 : decode cX6_housesSmelling 8 = .ok (.ifCond .ne 5, 3) := by decide +kernel
theorem dX6_housesSmelling_11 : decode cX6_housesSmelling 11 = .ok (.iconst 0, 1) := by decide +kernel
theorem dX6_housesSmelling_12 : decode cX6_housesSmelling 12 = .ok (.ireturn, 1) := by decide +kernel
theorem dX6_housesSmelling_13 : decode cX6_housesSmelling 13 = .ok (.iconst 0, 1) := by decide +kernel
theorem dX6_housesSmelling_14 : decode cX6_housesSmelling 14 = .ok (.istore_n 2, 1) := by decide +kernel
theorem dX6_housesSmelling_15 : decode cX6_housesSmelling 15 = .ok (.iconst 1, 1) := by decide +kernel
theorem dX6_housesSmelling_16 : decode cX6_housesSmelling 16 = .ok (.aload_n 0, 1) := by decide +kernel
theorem dX6_housesSmelling_17 : decode cX6_housesSmelling 17 = .ok (.getfield 19, 3) := by decide +kernel
theorem dX6_housesSmelling_20 : decode cX6_housesSmelling 20 = .ok (.iload_n 1, 1) := by decide +kernel
theorem dX6_housesSmelling_21 : decode cX6_housesSmelling 21 = .ok (.invokevirtual 87, 3) := by decide +kernel
theorem dX6_housesSmelling_24 : decode cX6_housesSmelling 24 = .ok (.isub, 1) := by decide +kernel
theorem dX6_housesSmelling_25 : decode cX6_housesSmelling 25 = .ok (.istore_n 3, 1) := by decide +kernel
theorem dX6_housesSmelling_26 : decode cX6_housesSmelling 26 = .ok (.iload_n 3, 1) := by decide +kernel
theorem dX6_housesSmelling_27 : decode cX6_housesSmelling 27 = .ok (.bipush 12, 2) := by decide +kernel
theorem dX6_housesSmelling_29 : decode cX6_housesSmelling 29 = .ok (.if_icmp .ge 31, 3) := by decide +kernel
theorem dX6_housesSmelling_32 : decode cX6_housesSmelling 32 = .ok (.aload_n 0, 1) := by decide +kernel
theorem dX6_housesSmelling_33 : decode cX6_housesSmelling 33 = .ok (.iload_n 1, 1) := by decide +kernel
theorem dX6_housesSmelling_34 : decode cX6_housesSmelling 34 = .ok (.iload_n 3, 1) := by decide +kernel
theorem dX6_housesSmelling_35 : decode cX6_housesSmelling 35 = .ok (.invokevirtual 90, 3) := by decide +kernel
theorem dX6_housesSmelling_38 : decode cX6_housesSmelling 38 = .ok (.aload_n 0, 1) := by decide +kernel
theorem dX6_housesSmelling_39 : decode cX6_housesSmelling 39 = .ok (.getfield 15, 3) := by decide +kernel
theorem dX6_housesSmelling_42 : decode cX6_housesSmelling 42 = .ok (.getfield 93, 3) := by decide +kernel
theorem dX6_housesSmelling_45 : decode cX6_housesSmelling 45 = .ok (.if_icmp .lt 9, 3) := by decide +kernel
theorem dX6_housesSmelling_48 : decode cX6_housesSmelling 48 = .ok (.iload_n 2, 1) := by decide +kernel
theorem dX6_housesSmelling_49 : decode cX6_housesSmelling 49 = .ok (.iconst 1, 1) := by decide +kernel
theorem dX6_housesSmelling_50 : decode cX6_housesSmelling 50 = .ok (.iload_n 3, 1) := by decide +kernel
theorem dX6_housesSmelling_51 : decode cX6_housesSmelling 51 = .ok (.ishl, 1) := by decide +kernel
theorem dX6_housesSmelling_52 : decode cX6_housesSmelling 52 = .ok (.ior, 1) := by decide +kernel
theorem dX6_housesSmelling_53 : decode cX6_housesSmelling 53 = .ok (.istore_n 2, 1) := by decide +kernel
theorem dX6_housesSmelling_54 : decode cX6_housesSmelling 54 = .ok (.iinc 3 2, 3) := by decide +kernel
theorem dX6_housesSmelling_57 : decode cX6_housesSmelling 57 = .ok (.goto (-31), 3) := by decide +kernel
theorem dX6_housesSmelling_60 : decode cX6_housesSmelling 60 = .ok (.iload_n 2, 1) := by decide +kernel
theorem dX6_housesSmelling_61 : decode cX6_housesSmelling 61 = .ok (.ireturn, 1) := by decide +kernel
theorem dX6_fewestShut_0 : decode cX6_fewestShut 0 = .ok (.iconst 0, 1) := by decide +kernel
theorem dX6_fewestShut_1 : decode cX6_fewestShut 1 = .ok (.istore_n 1, 1) := by decide +kernel
theorem dX6_fewestShut_2 : decode cX6_fewestShut 2 = .ok (.iload_n 1, 1) := by decide +kernel
theorem dX6_fewestShut_3 : decode cX6_fewestShut 3 = .ok (.aload_n 0, 1) := by decide +kernel
theorem dX6_fewestShut_4 : decode cX6_fewestShut 4 = .ok (.getfield 15, 3) := by decide +kernel
theorem dX6_fewestShut_7 : decode cX6_fewestShut 7 = .ok (.getfield 80, 3) := by decide +kernel
theorem dX6_fewestShut_10 : decode cX6_fewestShut 10 = .ok (.if_icmp .ge 20, 3) := by decide +kernel
theorem dX6_fewestShut_13 : decode cX6_fewestShut 13 = .ok (.aload_n 0, 1) := by decide +kernel
theorem dX6_fewestShut_14 : decode cX6_fewestShut 14 = .ok (.getfield 9, 3) := by decide +kernel
theorem dX6_fewestShut_17 : decode cX6_fewestShut 17 = .ok (.iload_n 1, 1) := by decide +kernel
theorem dX6_fewestShut_18 : decode cX6_fewestShut 18 = .ok (.aload_n 0, 1) := by decide +kernel
theorem dX6_fewestShut_19 : decode cX6_fewestShut 19 = .ok (.iload_n 1, 1) := by decide +kernel
theorem dX6_fewestShut_20 : decode cX6_fewestShut 20 = .ok (.invokevirtual 96, 3) := by decide +kernel
theorem dX6_fewestShut_23 : decode cX6_fewestShut 23 = .ok (.iastore, 1) := by decide +kernel
theorem dX6_fewestShut_24 : decode cX6_fewestShut 24 = .ok (.iinc 1 1, 3) := by decide +kernel
theorem dX6_fewestShut_27 : decode cX6_fewestShut 27 = .ok (.goto (-25), 3) := by decide +kernel
theorem dX6_fewestShut_30 : decode cX6_fewestShut 30 = .ok (.sipush 4095, 3) := by decide +kernel
theorem dX6_fewestShut_33 : decode cX6_fewestShut 33 = .ok (.istore_n 1, 1) := by decide +kernel
theorem dX6_fewestShut_34 : decode cX6_fewestShut 34 = .ok (.iconst 0, 1) := by decide +kernel
theorem dX6_fewestShut_35 : decode cX6_fewestShut 35 = .ok (.istore_n 2, 1) := by decide +kernel
theorem dX6_fewestShut_36 : decode cX6_fewestShut 36 = .ok (.iload_n 2, 1) := by decide +kernel
theorem dX6_fewestShut_37 : decode cX6_fewestShut 37 = .ok (.sipush 4096, 3) := by decide +kernel
theorem dX6_fewestShut_40 : decode cX6_fewestShut 40 = .ok (.if_icmp .ge 30, 3) := by decide +kernel
theorem dX6_fewestShut_43 : decode cX6_fewestShut 43 = .ok (.iload_n 2, 1) := by decide +kernel
theorem dX6_fewestShut_44 : decode cX6_fewestShut 44 = .ok (.invokestatic 99, 3) := by decide +kernel
theorem dX6_fewestShut_47 : decode cX6_fewestShut 47 = .ok (.iload_n 1, 1) := by decide +kernel
theorem dX6_fewestShut_48 : decode cX6_fewestShut 48 = .ok (.invokestatic 99, 3) := by decide +kernel
theorem dX6_fewestShut_51 : decode cX6_fewestShut 51 = .ok (.if_icmp .ge 13, 3) := by decide +kernel
theorem dX6_fewestShut_54 : decode cX6_fewestShut 54 = .ok (.aload_n 0, 1) := by decide +kernel
theorem dX6_fewestShut_55 : decode cX6_fewestShut 55 = .ok (.iload_n 2, 1) := by decide +kernel
theorem dX6_fewestShut_56 : decode cX6_fewestShut 56 = .ok (.invokevirtual 104, 3) := by decide +kernel
theorem dX6_fewestShut_59 : decode cX6_fewestShut 59 = .ok (.ifCond .eq 5, 3) := by decide +kernel
theorem dX6_fewestShut_62 : decode cX6_fewestShut 62 = .ok (.iload_n 2, 1) := by decide +kernel
theorem dX6_fewestShut_63 : decode cX6_fewestShut 63 = .ok (.istore_n 1, 1) := by decide +kernel
theorem dX6_fewestShut_64 : decode cX6_fewestShut 64 = .ok (.iinc 2 1, 3) := by decide +kernel
theorem dX6_fewestShut_67 : decode cX6_fewestShut 67 = .ok (.goto (-31), 3) := by decide +kernel
theorem dX6_fewestShut_70 : decode cX6_fewestShut 70 = .ok (.iload_n 1, 1) := by decide +kernel
theorem dX6_fewestShut_71 : decode cX6_fewestShut 71 = .ok (.ireturn, 1) := by decide +kernel
theorem dX6_holdsIn_0 : decode cX6_holdsIn 0 = .ok (.iconst 0, 1) := by decide +kernel
theorem dX6_holdsIn_1 : decode cX6_holdsIn 1 = .ok (.istore_n 2, 1) := by decide +kernel
theorem dX6_holdsIn_2 : decode cX6_holdsIn 2 = .ok (.iload_n 2, 1) := by decide +kernel
theorem dX6_holdsIn_3 : decode cX6_holdsIn 3 = .ok (.aload_n 0, 1) := by decide +kernel
theorem dX6_holdsIn_4 : decode cX6_holdsIn 4 = .ok (.getfield 15, 3) := by decide +kernel
theorem dX6_holdsIn_7 : decode cX6_holdsIn 7 = .ok (.getfield 80, 3) := by decide +kernel
theorem dX6_holdsIn_10 : decode cX6_holdsIn 10 = .ok (.if_icmp .ge 49, 3) := by decide +kernel
theorem dX6_holdsIn_13 : decode cX6_holdsIn 13 = .ok (.iload_n 1, 1) := by decide +kernel
theorem dX6_holdsIn_14 : decode cX6_holdsIn 14 = .ok (.aload_n 0, 1) := by decide +kernel
theorem dX6_holdsIn_15 : decode cX6_holdsIn 15 = .ok (.getfield 19, 3) := by decide +kernel
theorem dX6_holdsIn_18 : decode cX6_holdsIn 18 = .ok (.iload_n 2, 1) := by decide +kernel
theorem dX6_holdsIn_19 : decode cX6_holdsIn 19 = .ok (.invokevirtual 27, 3) := by decide +kernel
theorem dX6_holdsIn_22 : decode cX6_holdsIn 22 = .ok (.ishr, 1) := by decide +kernel
theorem dX6_holdsIn_23 : decode cX6_holdsIn 23 = .ok (.iconst 1, 1) := by decide +kernel
theorem dX6_holdsIn_24 : decode cX6_holdsIn 24 = .ok (.iand, 1) := by decide +kernel
theorem dX6_holdsIn_25 : decode cX6_holdsIn 25 = .ok (.ifCond .eq 7, 3) := by decide +kernel
theorem dX6_holdsIn_28 : decode cX6_holdsIn 28 = .ok (.iconst 1, 1) := by decide +kernel
theorem dX6_holdsIn_29 : decode cX6_holdsIn 29 = .ok (.goto 4, 3) := by decide +kernel
theorem dX6_holdsIn_32 : decode cX6_holdsIn 32 = .ok (.iconst 0, 1) := by decide +kernel
theorem dX6_holdsIn_33 : decode cX6_holdsIn 33 = .ok (.istore_n 3, 1) := by decide +kernel
theorem dX6_holdsIn_34 : decode cX6_holdsIn 34 = .ok (.iload_n 3, 1) := by decide +kernel
theorem dX6_holdsIn_35 : decode cX6_holdsIn 35 = .ok (.ifCond .ne 18, 3) := by decide +kernel
theorem dX6_holdsIn_38 : decode cX6_holdsIn 38 = .ok (.aload_n 0, 1) := by decide +kernel
theorem dX6_holdsIn_39 : decode cX6_holdsIn 39 = .ok (.getfield 9, 3) := by decide +kernel
theorem dX6_holdsIn_42 : decode cX6_holdsIn 42 = .ok (.iload_n 2, 1) := by decide +kernel
theorem dX6_holdsIn_43 : decode cX6_holdsIn 43 = .ok (.iaload, 1) := by decide +kernel
theorem dX6_holdsIn_44 : decode cX6_holdsIn 44 = .ok (.iload_n 1, 1) := by decide +kernel
theorem dX6_holdsIn_45 : decode cX6_holdsIn 45 = .ok (.iconst (-1), 1) := by decide +kernel
theorem dX6_holdsIn_46 : decode cX6_holdsIn 46 = .ok (.ixor, 1) := by decide +kernel
theorem dX6_holdsIn_47 : decode cX6_holdsIn 47 = .ok (.iand, 1) := by decide +kernel
theorem dX6_holdsIn_48 : decode cX6_holdsIn 48 = .ok (.ifCond .eq 5, 3) := by decide +kernel
theorem dX6_holdsIn_51 : decode cX6_holdsIn 51 = .ok (.iconst 0, 1) := by decide +kernel
theorem dX6_holdsIn_52 : decode cX6_holdsIn 52 = .ok (.ireturn, 1) := by decide +kernel
theorem dX6_holdsIn_53 : decode cX6_holdsIn 53 = .ok (.iinc 2 1, 3) := by decide +kernel
theorem dX6_holdsIn_56 : decode cX6_holdsIn 56 = .ok (.goto (-54), 3) := by decide +kernel
theorem dX6_holdsIn_59 : decode cX6_holdsIn 59 = .ok (.iconst 1, 1) := by decide +kernel
theorem dX6_holdsIn_60 : decode cX6_holdsIn 60 = .ok (.ireturn, 1) := by decide +kernel
theorem dX6_smeltWhereLived_0 : decode cX6_smeltWhereLived 0 = .ok (.iconst 0, 1) := by decide +kernel
theorem dX6_smeltWhereLived_1 : decode cX6_smeltWhereLived 1 = .ok (.istore_n 1, 1) := by decide +kernel
theorem dX6_smeltWhereLived_2 : decode cX6_smeltWhereLived 2 = .ok (.iconst 0, 1) := by decide +kernel
theorem dX6_smeltWhereLived_3 : decode cX6_smeltWhereLived 3 = .ok (.istore_n 2, 1) := by decide +kernel
theorem dX6_smeltWhereLived_4 : decode cX6_smeltWhereLived 4 = .ok (.iload_n 2, 1) := by decide +kernel
theorem dX6_smeltWhereLived_5 : decode cX6_smeltWhereLived 5 = .ok (.aload_n 0, 1) := by decide +kernel
theorem dX6_smeltWhereLived_6 : decode cX6_smeltWhereLived 6 = .ok (.getfield 15, 3) := by decide +kernel
theorem dX6_smeltWhereLived_9 : decode cX6_smeltWhereLived 9 = .ok (.getfield 107, 3) := by decide +kernel
theorem dX6_smeltWhereLived_12 : decode cX6_smeltWhereLived 12 = .ok (.if_icmp .ge 23, 3) := by decide +kernel
theorem dX6_smeltWhereLived_15 : decode cX6_smeltWhereLived 15 = .ok (.iload_n 1, 1) := by decide +kernel
theorem dX6_smeltWhereLived_16 : decode cX6_smeltWhereLived 16 = .ok (.iconst 1, 1) := by decide +kernel
theorem dX6_smeltWhereLived_17 : decode cX6_smeltWhereLived 17 = .ok (.aload_n 0, 1) := by decide +kernel
theorem dX6_smeltWhereLived_18 : decode cX6_smeltWhereLived 18 = .ok (.getfield 19, 3) := by decide +kernel
theorem dX6_smeltWhereLived_21 : decode cX6_smeltWhereLived 21 = .ok (.getfield 110, 3) := by decide +kernel
theorem dX6_smeltWhereLived_24 : decode cX6_smeltWhereLived 24 = .ok (.iload_n 2, 1) := by decide +kernel
theorem dX6_smeltWhereLived_25 : decode cX6_smeltWhereLived 25 = .ok (.iaload, 1) := by decide +kernel
theorem dX6_smeltWhereLived_26 : decode cX6_smeltWhereLived 26 = .ok (.ishl, 1) := by decide +kernel
theorem dX6_smeltWhereLived_27 : decode cX6_smeltWhereLived 27 = .ok (.ior, 1) := by decide +kernel
theorem dX6_smeltWhereLived_28 : decode cX6_smeltWhereLived 28 = .ok (.istore_n 1, 1) := by decide +kernel
theorem dX6_smeltWhereLived_29 : decode cX6_smeltWhereLived 29 = .ok (.iinc 2 1, 3) := by decide +kernel
theorem dX6_smeltWhereLived_32 : decode cX6_smeltWhereLived 32 = .ok (.goto (-28), 3) := by decide +kernel
theorem dX6_smeltWhereLived_35 : decode cX6_smeltWhereLived 35 = .ok (.iconst 0, 1) := by decide +kernel
theorem dX6_smeltWhereLived_36 : decode cX6_smeltWhereLived 36 = .ok (.istore_n 2, 1) := by decide +kernel
theorem dX6_smeltWhereLived_37 : decode cX6_smeltWhereLived 37 = .ok (.iconst 0, 1) := by decide +kernel
theorem dX6_smeltWhereLived_38 : decode cX6_smeltWhereLived 38 = .ok (.istore_n 3, 1) := by decide +kernel
theorem dX6_smeltWhereLived_39 : decode cX6_smeltWhereLived 39 = .ok (.iload_n 3, 1) := by decide +kernel
theorem dX6_smeltWhereLived_40 : decode cX6_smeltWhereLived 40 = .ok (.aload_n 0, 1) := by decide +kernel
theorem dX6_smeltWhereLived_41 : decode cX6_smeltWhereLived 41 = .ok (.getfield 15, 3) := by decide +kernel
theorem dX6_smeltWhereLived_44 : decode cX6_smeltWhereLived 44 = .ok (.getfield 80, 3) := by decide +kernel
theorem dX6_smeltWhereLived_47 : decode cX6_smeltWhereLived 47 = .ok (.if_icmp .ge 22, 3) := by decide +kernel
theorem dX6_smeltWhereLived_50 : decode cX6_smeltWhereLived 50 = .ok (.aload_n 0, 1) := by decide +kernel
theorem dX6_smeltWhereLived_51 : decode cX6_smeltWhereLived 51 = .ok (.iload_n 3, 1) := by decide +kernel
theorem dX6_smeltWhereLived_52 : decode cX6_smeltWhereLived 52 = .ok (.invokevirtual 96, 3) := by decide +kernel
theorem dX6_smeltWhereLived_55 : decode cX6_smeltWhereLived 55 = .ok (.iload_n 1, 1) := by decide +kernel
theorem dX6_smeltWhereLived_56 : decode cX6_smeltWhereLived 56 = .ok (.iand, 1) := by decide +kernel
theorem dX6_smeltWhereLived_57 : decode cX6_smeltWhereLived 57 = .ok (.ifCond .eq 6, 3) := by decide +kernel
theorem dX6_smeltWhereLived_60 : decode cX6_smeltWhereLived 60 = .ok (.iinc 2 1, 3) := by decide +kernel
theorem dX6_smeltWhereLived_63 : decode cX6_smeltWhereLived 63 = .ok (.iinc 3 1, 3) := by decide +kernel
theorem dX6_smeltWhereLived_66 : decode cX6_smeltWhereLived 66 = .ok (.goto (-27), 3) := by decide +kernel
theorem dX6_smeltWhereLived_69 : decode cX6_smeltWhereLived 69 = .ok (.iload_n 2, 1) := by decide +kernel
theorem dX6_smeltWhereLived_70 : decode cX6_smeltWhereLived 70 = .ok (.ireturn, 1) := by decide +kernel
theorem dX7_init_0 : decode cX7_init 0 = .ok (.aload_n 0, 1) := by decide +kernel
theorem dX7_init_1 : decode cX7_init 1 = .ok (.invokespecial 3, 3) := by decide +kernel
theorem dX7_init_4 : decode cX7_init 4 = .ok (.aload_n 0, 1) := by decide +kernel
theorem dX7_init_5 : decode cX7_init 5 = .ok (.bipush 10, 2) := by decide +kernel
theorem dX7_init_7 : decode cX7_init 7 = .ok (.newarray .int, 2) := by decide +kernel
theorem dX7_init_9 : decode cX7_init 9 = .ok (.putfield 9, 3) := by decide +kernel
theorem dX7_init_12 : decode cX7_init 12 = .ok (.aload_n 0, 1) := by decide +kernel
theorem dX7_init_13 : decode cX7_init 13 = .ok (.bipush 10, 2) := by decide +kernel
theorem dX7_init_15 : decode cX7_init 15 = .ok (.newarray .int, 2) := by decide +kernel
theorem dX7_init_17 : decode cX7_init 17 = .ok (.putfield 15, 3) := by decide +kernel
theorem dX7_init_20 : decode cX7_init 20 = .ok (.aload_n 0, 1) := by decide +kernel
theorem dX7_init_21 : decode cX7_init 21 = .ok (.bipush 10, 2) := by decide +kernel
theorem dX7_init_23 : decode cX7_init 23 = .ok (.newarray .int, 2) := by decide +kernel
theorem dX7_init_25 : decode cX7_init 25 = .ok (.putfield 18, 3) := by decide +kernel
theorem dX7_init_28 : decode cX7_init 28 = .ok (.aload_n 0, 1) := by decide +kernel
theorem dX7_init_29 : decode cX7_init 29 = .ok (.bipush 10, 2) := by decide +kernel
theorem dX7_init_31 : decode cX7_init 31 = .ok (.newarray .int, 2) := by decide +kernel
theorem dX7_init_33 : decode cX7_init 33 = .ok (.putfield 21, 3) := by decide +kernel
theorem dX7_init_36 : decode cX7_init 36 = .ok (.aload_n 0, 1) := by decide +kernel
theorem dX7_init_37 : decode cX7_init 37 = .ok (.bipush 10, 2) := by decide +kernel
theorem dX7_init_39 : decode cX7_init 39 = .ok (.newarray .int, 2) := by decide +kernel
theorem dX7_init_41 : decode cX7_init 41 = .ok (.putfield 24, 3) := by decide +kernel
theorem dX7_init_44 : decode cX7_init 44 = .ok (.aload_n 0, 1) := by decide +kernel
theorem dX7_init_45 : decode cX7_init 45 = .ok (.bipush 10, 2) := by decide +kernel
theorem dX7_init_47 : decode cX7_init 47 = .ok (.newarray .int, 2) := by decide +kernel
theorem dX7_init_49 : decode cX7_init 49 = .ok (.putfield 27, 3) := by decide +kernel
theorem dX7_init_52 : decode cX7_init 52 = .ok (.aload_n 0, 1) := by decide +kernel
theorem dX7_init_53 : decode cX7_init 53 = .ok (.bipush 12, 2) := by decide +kernel
theorem dX7_init_55 : decode cX7_init 55 = .ok (.putfield 30, 3) := by decide +kernel
theorem dX7_init_58 : decode cX7_init 58 = .ok (.aload_n 0, 1) := by decide +kernel
theorem dX7_init_59 : decode cX7_init 59 = .ok (.iconst 5, 1) := by decide +kernel
theorem dX7_init_60 : decode cX7_init 60 = .ok (.putfield 34, 3) := by decide +kernel
theorem dX7_init_63 : decode cX7_init 63 = .ok (.return_, 1) := by decide +kernel
theorem dX7_isPerson_0 : decode cX7_isPerson 0 = .ok (.iload_n 1, 1) := by decide +kernel
theorem dX7_isPerson_1 : decode cX7_isPerson 1 = .ok (.ifCond .lt 21, 3) := by decide +kernel
theorem dX7_isPerson_4 : decode cX7_isPerson 4 = .ok (.iload_n 1, 1) := by decide +kernel
theorem dX7_isPerson_5 : decode cX7_isPerson 5 = .ok (.aload_n 0, 1) := by decide +kernel
theorem dX7_isPerson_6 : decode cX7_isPerson 6 = .ok (.getfield 37, 3) := by decide +kernel
theorem dX7_isPerson_9 : decode cX7_isPerson 9 = .ok (.if_icmp .ge 13, 3) := by decide +kernel
theorem dX7_isPerson_12 : decode cX7_isPerson 12 = .ok (.iload_n 1, 1) := by decide +kernel
theorem dX7_isPerson_13 : decode cX7_isPerson 13 = .ok (.bipush 7, 2) := by decide +kernel
theorem dX7_isPerson_15 : decode cX7_isPerson 15 = .ok (.if_icmp .ge 7, 3) := by decide +kernel
theorem dX7_isPerson_18 : decode cX7_isPerson 18 = .ok (.iconst 1, 1) := by decide +kernel
theorem dX7_isPerson_19 : decode cX7_isPerson 19 = .ok (.goto 4, 3) := by decide +kernel
theorem dX7_isPerson_22 : decode cX7_isPerson 22 = .ok (.iconst 0, 1) := by decide +kernel
theorem dX7_isPerson_23 : decode cX7_isPerson 23 = .ok (.ireturn, 1) := by decide +kernel
theorem dX7_isJoy_0 : decode cX7_isJoy 0 = .ok (.iload_n 1, 1) := by decide +kernel
theorem dX7_isJoy_1 : decode cX7_isJoy 1 = .ok (.ifCond .lt 21, 3) := by decide +kernel
theorem dX7_isJoy_4 : decode cX7_isJoy 4 = .ok (.iload_n 1, 1) := by decide +kernel
theorem dX7_isJoy_5 : decode cX7_isJoy 5 = .ok (.aload_n 0, 1) := by decide +kernel
theorem dX7_isJoy_6 : decode cX7_isJoy 6 = .ok (.getfield 40, 3) := by decide +kernel
theorem dX7_isJoy_9 : decode cX7_isJoy 9 = .ok (.if_icmp .ge 13, 3) := by decide +kernel
theorem dX7_isJoy_12 : decode cX7_isJoy 12 = .ok (.iload_n 1, 1) := by decide +kernel
theorem dX7_isJoy_13 : decode cX7_isJoy 13 = .ok (.bipush 10, 2) := by decide +kernel
theorem dX7_isJoy_15 : decode cX7_isJoy 15 = .ok (.if_icmp .ge 7, 3) := by decide +kernel
theorem dX7_isJoy_18 : decode cX7_isJoy 18 = .ok (.iconst 1, 1) := by decide +kernel
theorem dX7_isJoy_19 : decode cX7_isJoy 19 = .ok (.goto 4, 3) := by decide +kernel
theorem dX7_isJoy_22 : decode cX7_isJoy 22 = .ok (.iconst 0, 1) := by decide +kernel
theorem dX7_isJoy_23 : decode cX7_isJoy 23 = .ok (.ireturn, 1) := by decide +kernel
theorem dX7_addJoy_0 : decode cX7_addJoy 0 = .ok (.aload_n 0, 1) := by decide +kernel
theorem dX7_addJoy_1 : decode cX7_addJoy 1 = .ok (.getfield 40, 3) := by decide +kernel
theorem dX7_addJoy_4 : decode cX7_addJoy 4 = .ok (.bipush 10, 2) := by decide +kernel
theorem dX7_addJoy_6 : decode cX7_addJoy 6 = .ok (.if_icmp .lt 6, 3) := by decide +kernel
theorem dX7_addJoy_9 : decode cX7_addJoy 9 = .ok (.bipush (-3), 2) := by decide +kernel
theorem dX7_addJoy_11 : decode cX7_addJoy 11 = .ok (.ireturn, 1) := by decide +kernel
theorem dX7_addJoy_12 : decode cX7_addJoy 12 = .ok (.aload_n 0, 1) := by decide +kernel
theorem dX7_addJoy_13 : decode cX7_addJoy 13 = .ok (.getfield 9, 3) := by decide +kernel
theorem dX7_addJoy_16 : decode cX7_addJoy 16 = .ok (.aload_n 0, 1) := by decide +kernel
theorem dX7_addJoy_17 : decode cX7_addJoy 17 = .ok (.getfield 40, 3) := by decide +kernel
theorem dX7_addJoy_20 : decode cX7_addJoy 20 = .ok (.iload_n 1, 1) := by decide +kernel
theorem dX7_addJoy_21 : decode cX7_addJoy 21 = .ok (.iastore, 1) := by decide +kernel
theorem dX7_addJoy_22 : decode cX7_addJoy 22 = .ok (.aload_n 0, 1) := by decide +kernel
theorem dX7_addJoy_23 : decode cX7_addJoy 23 = .ok (.getfield 15, 3) := by decide +kernel
theorem dX7_addJoy_26 : decode cX7_addJoy 26 = .ok (.aload_n 0, 1) := by decide +kernel
theorem dX7_addJoy_27 : decode cX7_addJoy 27 = .ok (.getfield 40, 3) := by decide +kernel
theorem dX7_addJoy_30 : decode cX7_addJoy 30 = .ok (.iload_n 2, 1) := by decide +kernel
theorem dX7_addJoy_31 : decode cX7_addJoy 31 = .ok (.iastore, 1) := by decide +kernel
theorem dX7_addJoy_32 : decode cX7_addJoy 32 = .ok (.aload_n 0, 1) := by decide +kernel
theorem dX7_addJoy_33 : decode cX7_addJoy 33 = .ok (.getfield 18, 3) := by decide +kernel
theorem dX7_addJoy_36 : decode cX7_addJoy 36 = .ok (.aload_n 0, 1) := by decide +kernel
theorem dX7_addJoy_37 : decode cX7_addJoy 37 = .ok (.getfield 40, 3) := by decide +kernel
theorem dX7_addJoy_40 : decode cX7_addJoy 40 = .ok (.iconst 2, 1) := by decide +kernel
theorem dX7_addJoy_41 : decode cX7_addJoy 41 = .ok (.iastore, 1) := by decide +kernel
theorem dX7_addJoy_42 : decode cX7_addJoy 42 = .ok (.aload_n 0, 1) := by decide +kernel
theorem dX7_addJoy_43 : decode cX7_addJoy 43 = .ok (.getfield 21, 3) := by decide +kernel
theorem dX7_addJoy_46 : decode cX7_addJoy 46 = .ok (.aload_n 0, 1) := by decide +kernel
theorem dX7_addJoy_47 : decode cX7_addJoy 47 = .ok (.getfield 40, 3) := by decide +kernel
theorem dX7_addJoy_50 : decode cX7_addJoy 50 = .ok (.bipush 9, 2) := by decide +kernel
theorem dX7_addJoy_52 : decode cX7_addJoy 52 = .ok (.iastore, 1) := by decide +kernel
theorem dX7_addJoy_53 : decode cX7_addJoy 53 = .ok (.aload_n 0, 1) := by decide +kernel
theorem dX7_addJoy_54 : decode cX7_addJoy 54 = .ok (.getfield 24, 3) := by decide +kernel
theorem dX7_addJoy_57 : decode cX7_addJoy 57 = .ok (.aload_n 0, 1) := by decide +kernel
theorem dX7_addJoy_58 : decode cX7_addJoy 58 = .ok (.getfield 40, 3) := by decide +kernel
theorem dX7_addJoy_61 : decode cX7_addJoy 61 = .ok (.iconst 5, 1) := by decide +kernel
theorem dX7_addJoy_62 : decode cX7_addJoy 62 = .ok (.iastore, 1) := by decide +kernel
theorem dX7_addJoy_63 : decode cX7_addJoy 63 = .ok (.aload_n 0, 1) := by decide +kernel
theorem dX7_addJoy_64 : decode cX7_addJoy 64 = .ok (.dup, 1) := by decide +kernel
theorem dX7_addJoy_65 : decode cX7_addJoy 65 = .ok (.getfield 40, 3) := by decide +kernel
theorem dX7_addJoy_68 : decode cX7_addJoy 68 = .ok (.dup_x1, 1) := by decide +kernel
theorem dX7_addJoy_69 : decode cX7_addJoy 69 = .ok (.iconst 1, 1) := by decide +kernel
theorem dX7_addJoy_70 : decode cX7_addJoy 70 = .ok (.iadd, 1) := by decide +kernel
theorem dX7_addJoy_71 : decode cX7_addJoy 71 = .ok (.putfield 40, 3) := by decide +kernel
theorem dX7_addJoy_74 : decode cX7_addJoy 74 = .ok (.ireturn, 1) := by decide +kernel
theorem dX8_init_0 : decode cX8_init 0 = .ok (.aload_n 0, 1) := by decide +kernel
theorem dX8_init_1 : decode cX8_init 1 = .ok (.invokespecial 1, 3) := by decide +kernel
theorem dX8_init_4 : decode cX8_init 4 = .ok (.aload_n 0, 1) := by decide +kernel
theorem dX8_init_5 : decode cX8_init 5 = .ok (.new 7, 3) := by decide +kernel
theorem dX8_init_8 : decode cX8_init 8 = .ok (.dup, 1) := by decide +kernel
theorem dX8_init_9 : decode cX8_init 9 = .ok (.invokespecial 9, 3) := by decide +kernel
theorem dX8_init_12 : decode cX8_init 12 = .ok (.putfield 10, 3) := by decide +kernel
theorem dX8_init_15 : decode cX8_init 15 = .ok (.aload_n 0, 1) := by decide +kernel
theorem dX8_init_16 : decode cX8_init 16 = .ok (.bipush 120, 2) := by decide +kernel
theorem dX8_init_18 : decode cX8_init 18 = .ok (.newarray .int, 2) := by decide +kernel
theorem dX8_init_20 : decode cX8_init 20 = .ok (.putfield 16, 3) := by decide +kernel
theorem dX8_init_23 : decode cX8_init 23 = .ok (.return_, 1) := by decide +kernel
theorem dX8_append_0 : decode cX8_append 0 = .ok (.aload_n 0, 1) := by decide +kernel
theorem dX8_append_1 : decode cX8_append 1 = .ok (.getfield 20, 3) := by decide +kernel
theorem dX8_append_4 : decode cX8_append 4 = .ok (.bipush 120, 2) := by decide +kernel
theorem dX8_append_6 : decode cX8_append 6 = .ok (.if_icmp .lt 5, 3) := by decide +kernel
theorem dX8_append_9 : decode cX8_append 9 = .ok (.iconst 0, 1) := by decide +kernel
theorem dX8_append_10 : decode cX8_append 10 = .ok (.ireturn, 1) := by decide +kernel
theorem dX8_append_11 : decode cX8_append 11 = .ok (.aload_n 0, 1) := by decide +kernel
theorem dX8_append_12 : decode cX8_append 12 = .ok (.getfield 16, 3) := by decide +kernel
theorem dX8_append_15 : decode cX8_append 15 = .ok (.aload_n 0, 1) := by decide +kernel
theorem dX8_append_16 : decode cX8_append 16 = .ok (.dup, 1) := by decide +kernel
theorem dX8_append_17 : decode cX8_append 17 = .ok (.getfield 20, 3) := by decide +kernel
theorem dX8_append_20 : decode cX8_append 20 = .ok (.dup_x1, 1) := by decide +kernel
theorem dX8_append_21 : decode cX8_append 21 = .ok (.iconst 1, 1) := by decide +kernel
theorem dX8_append_22 : decode cX8_append 22 = .ok (.iadd, 1) := by decide +kernel
theorem dX8_append_23 : decode cX8_append 23 = .ok (.putfield 20, 3) := by decide +kernel
theorem dX8_append_26 : decode cX8_append 26 = .ok (.iload_n 1, 1) := by decide +kernel
theorem dX8_append_27 : decode cX8_append 27 = .ok (.iastore, 1) := by decide +kernel
theorem dX8_append_28 : decode cX8_append 28 = .ok (.iconst 1, 1) := by decide +kernel
theorem dX8_append_29 : decode cX8_append 29 = .ok (.ireturn, 1) := by decide +kernel
theorem dX8_readLaw_0 : decode cX8_readLaw 0 = .ok (.aload_n 0, 1) := by decide +kernel
theorem dX8_readLaw_1 : decode cX8_readLaw 1 = .ok (.iconst 0, 1) := by decide +kernel
theorem dX8_readLaw_2 : decode cX8_readLaw 2 = .ok (.putfield 24, 3) := by decide +kernel
theorem dX8_readLaw_5 : decode cX8_readLaw 5 = .ok (.aload_n 0, 1) := by decide +kernel
theorem dX8_readLaw_6 : decode cX8_readLaw 6 = .ok (.iconst 0, 1) := by decide +kernel
theorem dX8_readLaw_7 : decode cX8_readLaw 7 = .ok (.putfield 27, 3) := by decide +kernel
theorem dX8_readLaw_10 : decode cX8_readLaw 10 = .ok (.aload_n 0, 1) := by decide +kernel
theorem dX8_readLaw_11 : decode cX8_readLaw 11 = .ok (.getfield 10, 3) := by decide +kernel
theorem dX8_readLaw_14 : decode cX8_readLaw 14 = .ok (.invokevirtual 31, 3) := by decide +kernel
theorem dX8_readLaw_17 : decode cX8_readLaw 17 = .ok (.aload_n 0, 1) := by decide +kernel
theorem dX8_readLaw_18 : decode cX8_readLaw 18 = .ok (.invokevirtual 34, 3) := by decide +kernel
theorem dX8_readLaw_21 : decode cX8_readLaw 21 = .ok (.iconst 0, 1) := by decide +kernel
theorem dX8_readLaw_22 : decode cX8_readLaw 22 = .ok (.istore_n 1, 1) := by decide +kernel
theorem dX8_readLaw_23 : decode cX8_readLaw 23 = .ok (.iload_n 1, 1) := by decide +kernel
theorem dX8_readLaw_24 : decode cX8_readLaw 24 = .ok (.bipush 120, 2) := by decide +kernel
theorem dX8_readLaw_26 : decode cX8_readLaw 26 = .ok (.if_icmp .ge 22, 3) := by decide +kernel
theorem dX8_readLaw_29 : decode cX8_readLaw 29 = .ok (.aload_n 0, 1) := by decide +kernel
theorem dX8_readLaw_30 : decode cX8_readLaw 30 = .ok (.bipush 59, 2) := by decide +kernel
theorem dX8_readLaw_32 : decode cX8_readLaw 32 = .ok (.invokevirtual 37, 3) := by decide +kernel
theorem dX8_readLaw_35 : decode cX8_readLaw 35 = .ok (.ifCond .eq 13, 3) := by decide +kernel
theorem dX8_readLaw_38 : decode cX8_readLaw 38 = .ok (.aload_n 0, 1) := by decide +kernel
theorem dX8_readLaw_39 : decode cX8_readLaw 39 = .ok (.invokevirtual 34, 3) := by decide +kernel
theorem dX8_readLaw_42 : decode cX8_readLaw 42 = .ok (.iinc 1 1, 3) := by decide +kernel
theorem dX8_readLaw_45 : decode cX8_readLaw 45 = .ok (.goto (-22), 3) := by decide +kernel
theorem dX8_readLaw_48 : decode cX8_readLaw 48 = .ok (.aload_n 0, 1) := by decide +kernel
theorem dX8_readLaw_49 : decode cX8_readLaw 49 = .ok (.getfield 27, 3) := by decide +kernel
theorem dX8_readLaw_52 : decode cX8_readLaw 52 = .ok (.ifCond .ne 14, 3) := by decide +kernel
theorem dX8_readLaw_55 : decode cX8_readLaw 55 = .ok (.aload_n 0, 1) := by decide +kernel
theorem dX8_readLaw_56 : decode cX8_readLaw 56 = .ok (.getfield 24, 3) := by decide +kernel
theorem dX8_readLaw_59 : decode cX8_readLaw 59 = .ok (.aload_n 0, 1) := by decide +kernel
theorem dX8_readLaw_60 : decode cX8_readLaw 60 = .ok (.getfield 20, 3) := by decide +kernel
theorem dX8_readLaw_63 : decode cX8_readLaw 63 = .ok (.if_icmp .ge 13, 3) := by decide +kernel
theorem dX8_readLaw_66 : decode cX8_readLaw 66 = .ok (.bipush (-100), 2) := by decide +kernel
theorem dX8_readLaw_68 : decode cX8_readLaw 68 = .ok (.aload_n 0, 1) := by decide +kernel
theorem dX8_readLaw_69 : decode cX8_readLaw 69 = .ok (.getfield 24, 3) := by decide +kernel
theorem dX8_readLaw_72 : decode cX8_readLaw 72 = .ok (.isub, 1) := by decide +kernel
theorem dX8_readLaw_73 : decode cX8_readLaw 73 = .ok (.goto 4, 3) := by decide +kernel
theorem dX8_readLaw_76 : decode cX8_readLaw 76 = .ok (.iconst 1, 1) := by decide +kernel
theorem dX8_readLaw_77 : decode cX8_readLaw 77 = .ok (.ireturn, 1) := by decide +kernel
theorem dX8_next_0 : decode cX8_next 0 = .ok (.aload_n 0, 1) := by decide +kernel
theorem dX8_next_1 : decode cX8_next 1 = .ok (.getfield 27, 3) := by decide +kernel
theorem dX8_next_4 : decode cX8_next 4 = .ok (.ifCond .ne 35, 3) := by decide +kernel
theorem dX8_next_7 : decode cX8_next 7 = .ok (.aload_n 0, 1) := by decide +kernel
theorem dX8_next_8 : decode cX8_next 8 = .ok (.getfield 24, 3) := by decide +kernel
theorem dX8_next_11 : decode cX8_next 11 = .ok (.aload_n 0, 1) := by decide +kernel
theorem dX8_next_12 : decode cX8_next 12 = .ok (.getfield 20, 3) := by decide +kernel
theorem dX8_next_15 : decode cX8_next 15 = .ok (.if_icmp .ge 24, 3) := by decide +kernel
theorem dX8_next_18 : decode cX8_next 18 = .ok (.aload_n 0, 1) := by decide +kernel
theorem dX8_next_19 : decode cX8_next 19 = .ok (.getfield 24, 3) := by decide +kernel
theorem dX8_next_22 : decode cX8_next 22 = .ok (.bipush 120, 2) := by decide +kernel
theorem dX8_next_24 : decode cX8_next 24 = .ok (.if_icmp .ge 15, 3) := by decide +kernel
theorem dX8_next_27 : decode cX8_next 27 = .ok (.aload_n 0, 1) := by decide +kernel
theorem dX8_next_28 : decode cX8_next 28 = .ok (.getfield 16, 3) := by decide +kernel
theorem dX8_next_31 : decode cX8_next 31 = .ok (.aload_n 0, 1) := by decide +kernel
theorem dX8_next_32 : decode cX8_next 32 = .ok (.getfield 24, 3) := by decide +kernel
theorem dX8_next_35 : decode cX8_next 35 = .ok (.iaload, 1) := by decide +kernel
theorem dX8_next_36 : decode cX8_next 36 = .ok (.goto 4, 3) := by decide +kernel
theorem dX8_next_39 : decode cX8_next 39 = .ok (.iconst (-1), 1) := by decide +kernel
theorem dX8_next_40 : decode cX8_next 40 = .ok (.ireturn, 1) := by decide +kernel
theorem dX8_takes_0 : decode cX8_takes 0 = .ok (.aload_n 0, 1) := by decide +kernel
theorem dX8_takes_1 : decode cX8_takes 1 = .ok (.invokevirtual 41, 3) := by decide +kernel
theorem dX8_takes_4 : decode cX8_takes 4 = .ok (.iload_n 1, 1) := by decide +kernel
theorem dX8_takes_5 : decode cX8_takes 5 = .ok (.if_icmp .eq 5, 3) := by decide +kernel
theorem dX8_takes_8 : decode cX8_takes 8 = .ok (.iconst 0, 1) := by decide +kernel
theorem dX8_takes_9 : decode cX8_takes 9 = .ok (.ireturn, 1) := by decide +kernel
theorem dX8_takes_10 : decode cX8_takes 10 = .ok (.aload_n 0, 1) := by decide +kernel
theorem dX8_takes_11 : decode cX8_takes 11 = .ok (.dup, 1) := by decide +kernel
theorem dX8_takes_12 : decode cX8_takes 12 = .ok (.getfield 24, 3) := by decide +kernel
theorem dX8_takes_15 : decode cX8_takes 15 = .ok (.iconst 1, 1) := by decide +kernel
theorem dX8_takes_16 : decode cX8_takes 16 = .ok (.iadd, 1) := by decide +kernel
theorem dX8_takes_17 : decode cX8_takes 17 = .ok (.putfield 24, 3) := by decide +kernel
theorem dX8_takes_20 : decode cX8_takes 20 = .ok (.iconst 1, 1) := by decide +kernel
theorem dX8_takes_21 : decode cX8_takes 21 = .ok (.ireturn, 1) := by decide +kernel
theorem dX8_readLine_0 : decode cX8_readLine 0 = .ok (.aload_n 0, 1) := by decide +kernel
theorem dX8_readLine_1 : decode cX8_readLine 1 = .ok (.iconst 0, 1) := by decide +kernel
theorem dX8_readLine_2 : decode cX8_readLine 2 = .ok (.invokevirtual 45, 3) := by decide +kernel
theorem dX8_readLine_5 : decode cX8_readLine 5 = .ok (.aload_n 0, 1) := by decide +kernel
theorem dX8_readLine_6 : decode cX8_readLine 6 = .ok (.bipush 63, 2) := by decide +kernel
theorem dX8_readLine_8 : decode cX8_readLine 8 = .ok (.invokevirtual 37, 3) := by decide +kernel
theorem dX8_readLine_11 : decode cX8_readLine 11 = .ok (.ifCond .eq 41, 3) := by decide +kernel
theorem dX8_readLine_14 : decode cX8_readLine 14 = .ok (.aload_n 0, 1) := by decide +kernel
theorem dX8_readLine_15 : decode cX8_readLine 15 = .ok (.getfield 10, 3) := by decide +kernel
theorem dX8_readLine_18 : decode cX8_readLine 18 = .ok (.bipush 63, 2) := by decide +kernel
theorem dX8_readLine_20 : decode cX8_readLine 20 = .ok (.iconst 0, 1) := by decide +kernel
theorem dX8_readLine_21 : decode cX8_readLine 21 = .ok (.invokevirtual 49, 3) := by decide +kernel
theorem dX8_readLine_24 : decode cX8_readLine 24 = .ok (.istore_n 1, 1) := by decide +kernel
theorem dX8_readLine_25 : decode cX8_readLine 25 = .ok (.aload_n 0, 1) := by decide +kernel
theorem dX8_readLine_26 : decode cX8_readLine 26 = .ok (.iconst 0, 1) := by decide +kernel
theorem dX8_readLine_27 : decode cX8_readLine 27 = .ok (.invokevirtual 45, 3) := by decide +kernel
theorem dX8_readLine_30 : decode cX8_readLine 30 = .ok (.aload_n 0, 1) := by decide +kernel
theorem dX8_readLine_31 : decode cX8_readLine 31 = .ok (.getfield 10, 3) := by decide +kernel
theorem dX8_readLine_34 : decode cX8_readLine 34 = .ok (.bipush 59, 2) := by decide +kernel
theorem dX8_readLine_36 : decode cX8_readLine 36 = .ok (.iconst 0, 1) := by decide +kernel
theorem dX8_readLine_37 : decode cX8_readLine 37 = .ok (.invokevirtual 49, 3) := by decide +kernel
theorem dX8_readLine_40 : decode cX8_readLine 40 = .ok (.pop, 1) := by decide +kernel
theorem dX8_readLine_41 : decode cX8_readLine 41 = .ok (.aload_n 0, 1) := by decide +kernel
theorem dX8_readLine_42 : decode cX8_readLine 42 = .ok (.getfield 10, 3) := by decide +kernel
theorem dX8_readLine_45 : decode cX8_readLine 45 = .ok (.iload_n 1, 1) := by decide +kernel
theorem dX8_readLine_46 : decode cX8_readLine 46 = .ok (.invokevirtual 53, 3) := by decide +kernel
theorem dX8_readLine_49 : decode cX8_readLine 49 = .ok (.goto 14, 3) := by decide +kernel
theorem dX8_readLine_52 : decode cX8_readLine 52 = .ok (.aload_n 0, 1) := by decide +kernel
theorem dX8_readLine_53 : decode cX8_readLine 53 = .ok (.getfield 10, 3) := by decide +kernel
theorem dX8_readLine_56 : decode cX8_readLine 56 = .ok (.bipush 59, 2) := by decide +kernel
theorem dX8_readLine_58 : decode cX8_readLine 58 = .ok (.iconst 0, 1) := by decide +kernel
theorem dX8_readLine_59 : decode cX8_readLine 59 = .ok (.invokevirtual 49, 3) := by decide +kernel
theorem dX8_readLine_62 : decode cX8_readLine 62 = .ok (.pop, 1) := by decide +kernel
theorem dX8_readLine_63 : decode cX8_readLine 63 = .ok (.return_, 1) := by decide +kernel
theorem dX8_readEither_0 : decode cX8_readEither 0 = .ok (.aload_n 0, 1) := by decide +kernel
theorem dX8_readEither_1 : decode cX8_readEither 1 = .ok (.iload_n 1, 1) := by decide +kernel
theorem dX8_readEither_2 : decode cX8_readEither 2 = .ok (.invokevirtual 56, 3) := by decide +kernel
theorem dX8_readEither_5 : decode cX8_readEither 5 = .ok (.iconst 0, 1) := by decide +kernel
theorem dX8_readEither_6 : decode cX8_readEither 6 = .ok (.istore_n 2, 1) := by decide +kernel
theorem dX8_readEither_7 : decode cX8_readEither 7 = .ok (.iload_n 2, 1) := by decide +kernel
theorem dX8_readEither_8 : decode cX8_readEither 8 = .ok (.bipush 120, 2) := by decide +kernel
theorem dX8_readEither_10 : decode cX8_readEither 10 = .ok (.if_icmp .ge 34, 3) := by decide +kernel
theorem dX8_readEither_13 : decode cX8_readEither 13 = .ok (.aload_n 0, 1) := by decide +kernel
theorem dX8_readEither_14 : decode cX8_readEither 14 = .ok (.bipush 124, 2) := by decide +kernel
theorem dX8_readEither_16 : decode cX8_readEither 16 = .ok (.invokevirtual 37, 3) := by decide +kernel
theorem dX8_readEither_19 : decode cX8_readEither 19 = .ok (.ifCond .eq 25, 3) := by decide +kernel
theorem dX8_readEither_22 : decode cX8_readEither 22 = .ok (.aload_n 0, 1) := by decide +kernel
theorem dX8_readEither_23 : decode cX8_readEither 23 = .ok (.iload_n 1, 1) := by decide +kernel
theorem dX8_readEither_24 : decode cX8_readEither 24 = .ok (.invokevirtual 56, 3) := by decide +kernel
theorem dX8_readEither_27 : decode cX8_readEither 27 = .ok (.aload_n 0, 1) := by decide +kernel
theorem dX8_readEither_28 : decode cX8_readEither 28 = .ok (.getfield 10, 3) := by decide +kernel
theorem dX8_readEither_31 : decode cX8_readEither 31 = .ok (.bipush 124, 2) := by decide +kernel
theorem dX8_readEither_33 : decode cX8_readEither 33 = .ok (.iconst 0, 1) := by decide +kernel
theorem dX8_readEither_34 : decode cX8_readEither 34 = .ok (.invokevirtual 49, 3) := by decide +kernel
theorem dX8_readEither_37 : decode cX8_readEither 37 = .ok (.pop, 1) := by decide +kernel
theorem dX8_readEither_38 : decode cX8_readEither 38 = .ok (.iinc 2 1, 3) := by decide +kernel
theorem dX8_readEither_41 : decode cX8_readEither 41 = .ok (.goto (-34), 3) := by decide +kernel
theorem dX8_readEither_44 : decode cX8_readEither 44 = .ok (.return_, 1) := by decide +kernel
theorem dX8_readBoth_0 : decode cX8_readBoth 0 = .ok (.aload_n 0, 1) := by decide +kernel
theorem dX8_readBoth_1 : decode cX8_readBoth 1 = .ok (.iload_n 1, 1) := by decide +kernel
theorem dX8_readBoth_2 : decode cX8_readBoth 2 = .ok (.invokevirtual 59, 3) := by decide +kernel
theorem dX8_readBoth_5 : decode cX8_readBoth 5 = .ok (.iconst 0, 1) := by decide +kernel
theorem dX8_readBoth_6 : decode cX8_readBoth 6 = .ok (.istore_n 2, 1) := by decide +kernel
theorem dX8_readBoth_7 : decode cX8_readBoth 7 = .ok (.iload_n 2, 1) := by decide +kernel
theorem dX8_readBoth_8 : decode cX8_readBoth 8 = .ok (.bipush 120, 2) := by decide +kernel
theorem dX8_readBoth_10 : decode cX8_readBoth 10 = .ok (.if_icmp .ge 34, 3) := by decide +kernel
theorem dX8_readBoth_13 : decode cX8_readBoth 13 = .ok (.aload_n 0, 1) := by decide +kernel
theorem dX8_readBoth_14 : decode cX8_readBoth 14 = .ok (.bipush 38, 2) := by decide +kernel
theorem dX8_readBoth_16 : decode cX8_readBoth 16 = .ok (.invokevirtual 37, 3) := by decide +kernel
theorem dX8_readBoth_19 : decode cX8_readBoth 19 = .ok (.ifCond .eq 25, 3) := by decide +kernel
theorem dX8_readBoth_22 : decode cX8_readBoth 22 = .ok (.aload_n 0, 1) := by decide +kernel
theorem dX8_readBoth_23 : decode cX8_readBoth 23 = .ok (.iload_n 1, 1) := by decide +kernel
theorem dX8_readBoth_24 : decode cX8_readBoth 24 = .ok (.invokevirtual 59, 3) := by decide +kernel
theorem dX8_readBoth_27 : decode cX8_readBoth 27 = .ok (.aload_n 0, 1) := by decide +kernel
theorem dX8_readBoth_28 : decode cX8_readBoth 28 = .ok (.getfield 10, 3) := by decide +kernel
theorem dX8_readBoth_31 : decode cX8_readBoth 31 = .ok (.bipush 38, 2) := by decide +kernel
theorem dX8_readBoth_33 : decode cX8_readBoth 33 = .ok (.iconst 0, 1) := by decide +kernel
theorem dX8_readBoth_34 : decode cX8_readBoth 34 = .ok (.invokevirtual 49, 3) := by decide +kernel
theorem dX8_readBoth_37 : decode cX8_readBoth 37 = .ok (.pop, 1) := by decide +kernel
theorem dX8_readBoth_38 : decode cX8_readBoth 38 = .ok (.iinc 2 1, 3) := by decide +kernel
theorem dX8_readBoth_41 : decode cX8_readBoth 41 = .ok (.goto (-34), 3) := by decide +kernel
theorem dX8_readBoth_44 : decode cX8_readBoth 44 = .ok (.return_, 1) := by decide +kernel
theorem dX8_readCompared_0 : decode cX8_readCompared 0 = .ok (.aload_n 0, 1) := by decide +kernel
theorem dX8_readCompared_1 : decode cX8_readCompared 1 = .ok (.iload_n 1, 1) := by decide +kernel
theorem dX8_readCompared_2 : decode cX8_readCompared 2 = .ok (.invokevirtual 62, 3) := by decide +kernel
theorem dX8_readCompared_5 : decode cX8_readCompared 5 = .ok (.aload_n 0, 1) := by decide +kernel
theorem dX8_readCompared_6 : decode cX8_readCompared 6 = .ok (.invokevirtual 41, 3) := by decide +kernel
theorem dX8_readCompared_9 : decode cX8_readCompared 9 = .ok (.istore_n 2, 1) := by decide +kernel
theorem dX8_readCompared_10 : decode cX8_readCompared 10 = .ok (.iload_n 2, 1) := by decide +kernel
theorem dX8_readCompared_11 : decode cX8_readCompared 11 = .ok (.bipush 60, 2) := by decide +kernel
theorem dX8_readCompared_13 : decode cX8_readCompared 13 = .ok (.if_icmp .eq 15, 3) := by decide +kernel
theorem dX8_readCompared_16 : decode cX8_readCompared 16 = .ok (.iload_n 2, 1) := by decide +kernel
theorem dX8_readCompared_17 : decode cX8_readCompared 17 = .ok (.bipush 61, 2) := by decide +kernel
theorem dX8_readCompared_19 : decode cX8_readCompared 19 = .ok (.if_icmp .eq 9, 3) := by decide +kernel
theorem dX8_readCompared_22 : decode cX8_readCompared 22 = .ok (.iload_n 2, 1) := by decide +kernel
theorem dX8_readCompared_23 : decode cX8_readCompared 23 = .ok (.bipush 62, 2) := by decide +kernel
theorem dX8_readCompared_25 : decode cX8_readCompared 25 = .ok (.if_icmp .ne 28, 3) := by decide +kernel
theorem dX8_readCompared_28 : decode cX8_readCompared 28 = .ok (.aload_n 0, 1) := by decide +kernel
theorem dX8_readCompared_29 : decode cX8_readCompared 29 = .ok (.dup, 1) := by decide +kernel
theorem dX8_readCompared_30 : decode cX8_readCompared 30 = .ok (.getfield 24, 3) := by decide +kernel
theorem dX8_readCompared_33 : decode cX8_readCompared 33 = .ok (.iconst 1, 1) := by decide +kernel
theorem dX8_readCompared_34 : decode cX8_readCompared 34 = .ok (.iadd, 1) := by decide +kernel
theorem dX8_readCompared_35 : decode cX8_readCompared 35 = .ok (.putfield 24, 3) := by decide +kernel
theorem dX8_readCompared_38 : decode cX8_readCompared 38 = .ok (.aload_n 0, 1) := by decide +kernel
theorem dX8_readCompared_39 : decode cX8_readCompared 39 = .ok (.iload_n 1, 1) := by decide +kernel
theorem dX8_readCompared_40 : decode cX8_readCompared 40 = .ok (.invokevirtual 62, 3) := by decide +kernel
theorem dX8_readCompared_43 : decode cX8_readCompared 43 = .ok (.aload_n 0, 1) := by decide +kernel
theorem dX8_readCompared_44 : decode cX8_readCompared 44 = .ok (.getfield 10, 3) := by decide +kernel
theorem dX8_readCompared_47 : decode cX8_readCompared 47 = .ok (.iload_n 2, 1) := by decide +kernel
theorem dX8_readCompared_48 : decode cX8_readCompared 48 = .ok (.iconst 0, 1) := by decide +kernel
theorem dX8_readCompared_49 : decode cX8_readCompared 49 = .ok (.invokevirtual 49, 3) := by decide +kernel
theorem dX8_readCompared_52 : decode cX8_readCompared 52 = .ok (.pop, 1) := by decide +kernel
theorem dX8_readCompared_53 : decode cX8_readCompared 53 = .ok (.return_, 1) := by decide +kernel
theorem dX8_readSum_0 : decode cX8_readSum 0 = .ok (.aload_n 0, 1) := by decide +kernel
theorem dX8_readSum_1 : decode cX8_readSum 1 = .ok (.iload_n 1, 1) := by decide +kernel
theorem dX8_readSum_2 : decode cX8_readSum 2 = .ok (.invokevirtual 65, 3) := by decide +kernel
theorem dX8_readSum_5 : decode cX8_readSum 5 = .ok (.iconst 0, 1) := by decide +kernel
theorem dX8_readSum_6 : decode cX8_readSum 6 = .ok (.istore_n 2, 1) := by decide +kernel
theorem dX8_readSum_7 : decode cX8_readSum 7 = .ok (.iload_n 2, 1) := by decide +kernel
theorem dX8_readSum_8 : decode cX8_readSum 8 = .ok (.bipush 120, 2) := by decide +kernel
theorem dX8_readSum_10 : decode cX8_readSum 10 = .ok (.if_icmp .ge 57, 3) := by decide +kernel
theorem dX8_readSum_13 : decode cX8_readSum 13 = .ok (.aload_n 0, 1) := by decide +kernel
theorem dX8_readSum_14 : decode cX8_readSum 14 = .ok (.invokevirtual 41, 3) := by decide +kernel
theorem dX8_readSum_17 : decode cX8_readSum 17 = .ok (.bipush 43, 2) := by decide +kernel
theorem dX8_readSum_19 : decode cX8_readSum 19 = .ok (.if_icmp .eq 12, 3) := by decide +kernel
theorem dX8_readSum_22 : decode cX8_readSum 22 = .ok (.aload_n 0, 1) := by decide +kernel
theorem dX8_readSum_23 : decode cX8_readSum 23 = .ok (.invokevirtual 41, 3) := by decide +kernel
theorem dX8_readSum_26 : decode cX8_readSum 26 = .ok (.bipush 45, 2) := by decide +kernel
theorem dX8_readSum_28 : decode cX8_readSum 28 = .ok (.if_icmp .ne 39, 3) := by decide +kernel
theorem dX8_readSum_31 : decode cX8_readSum 31 = .ok (.aload_n 0, 1) := by decide +kernel
theorem dX8_readSum_32 : decode cX8_readSum 32 = .ok (.invokevirtual 41, 3) := by decide +kernel
theorem dX8_readSum_35 : decode cX8_readSum 35 = .ok (.istore_n 3, 1) := by decide +kernel
theorem dX8_readSum_36 : decode cX8_readSum 36 = .ok (.aload_n 0, 1) := by decide +kernel
theorem dX8_readSum_37 : decode cX8_readSum 37 = .ok (.dup, 1) := by decide +kernel
theorem dX8_readSum_38 : decode cX8_readSum 38 = .ok (.getfield 24, 3) := by decide +kernel
theorem dX8_readSum_41 : decode cX8_readSum 41 = .ok (.iconst 1, 1) := by decide +kernel
theorem dX8_readSum_42 : decode cX8_readSum 42 = .ok (.iadd, 1) := by decide +kernel
theorem dX8_readSum_43 : decode cX8_readSum 43 = .ok (.putfield 24, 3) := by decide +kernel
theorem dX8_readSum_46 : decode cX8_readSum 46 = .ok (.aload_n 0, 1) := by decide +kernel
theorem dX8_readSum_47 : decode cX8_readSum 47 = .ok (.iload_n 1, 1) := by decide +kernel
theorem dX8_readSum_48 : decode cX8_readSum 48 = .ok (.invokevirtual 65, 3) := by decide +kernel
theorem dX8_readSum_51 : decode cX8_readSum 51 = .ok (.aload_n 0, 1) := by decide +kernel
theorem dX8_readSum_52 : decode cX8_readSum 52 = .ok (.getfield 10, 3) := by decide +kernel
theorem dX8_readSum_55 : decode cX8_readSum 55 = .ok (.iload_n 3, 1) := by decide +kernel
theorem dX8_readSum_56 : decode cX8_readSum 56 = .ok (.iconst 0, 1) := by decide +kernel
theorem dX8_readSum_57 : decode cX8_readSum 57 = .ok (.invokevirtual 49, 3) := by decide +kernel
theorem dX8_readSum_60 : decode cX8_readSum 60 = .ok (.pop, 1) := by decide +kernel
theorem dX8_readSum_61 : decode cX8_readSum 61 = .ok (.iinc 2 1, 3) := by decide +kernel
theorem dX8_readSum_64 : decode cX8_readSum 64 = .ok (.goto (-57), 3) := by decide +kernel
theorem dX8_readSum_67 : decode cX8_readSum 67 = .ok (.return_, 1) := by decide +kernel
theorem dX8_readProduct_0 : decode cX8_readProduct 0 = .ok (.aload_n 0, 1) := by decide +kernel
theorem dX8_readProduct_1 : decode cX8_readProduct 1 = .ok (.iload_n 1, 1) := by decide +kernel
theorem dX8_readProduct_2 : decode cX8_readProduct 2 = .ok (.invokevirtual 68, 3) := by decide +kernel
theorem dX8_readProduct_5 : decode cX8_readProduct 5 = .ok (.iconst 0, 1) := by decide +kernel
theorem dX8_readProduct_6 : decode cX8_readProduct 6 = .ok (.istore_n 2, 1) := by decide +kernel
theorem dX8_readProduct_7 : decode cX8_readProduct 7 = .ok (.iload_n 2, 1) := by decide +kernel
theorem dX8_readProduct_8 : decode cX8_readProduct 8 = .ok (.bipush 120, 2) := by decide +kernel
theorem dX8_readProduct_10 : decode cX8_readProduct 10 = .ok (.if_icmp .ge 66, 3) := by decide +kernel
theorem dX8_readProduct_13 : decode cX8_readProduct 13 = .ok (.aload_n 0, 1) := by decide +kernel
theorem dX8_readProduct_14 : decode cX8_readProduct 14 = .ok (.invokevirtual 41, 3) := by decide +kernel
theorem dX8_readProduct_17 : decode cX8_readProduct 17 = .ok (.bipush 42, 2) := by decide +kernel
theorem dX8_readProduct_19 : decode cX8_readProduct 19 = .ok (.if_icmp .eq 21, 3) := by decide +kernel
theorem dX8_readProduct_22 : decode cX8_readProduct 22 = .ok (.aload_n 0, 1) := by decide +kernel
theorem dX8_readProduct_23 : decode cX8_readProduct 23 = .ok (.invokevirtual 41, 3) := by decide +kernel
theorem dX8_readProduct_26 : decode cX8_readProduct 26 = .ok (.bipush 47, 2) := by decide +kernel
theorem dX8_readProduct_28 : decode cX8_readProduct 28 = .ok (.if_icmp .eq 12, 3) := by decide +kernel
theorem dX8_readProduct_31 : decode cX8_readProduct 31 = .ok (.aload_n 0, 1) := by decide +kernel
theorem dX8_readProduct_32 : decode cX8_readProduct 32 = .ok (.invokevirtual 41, 3) := by decide +kernel
theorem dX8_readProduct_35 : decode cX8_readProduct 35 = .ok (.bipush 37, 2) := by decide +kernel
theorem dX8_readProduct_37 : decode cX8_readProduct 37 = .ok (.if_icmp .ne 39, 3) := by decide +kernel
theorem dX8_readProduct_40 : decode cX8_readProduct 40 = .ok (.aload_n 0, 1) := by decide +kernel
theorem dX8_readProduct_41 : decode cX8_readProduct 41 = .ok (.invokevirtual 41, 3) := by decide +kernel
theorem dX8_readProduct_44 : decode cX8_readProduct 44 = .ok (.istore_n 3, 1) := by decide +kernel
theorem dX8_readProduct_45 : decode cX8_readProduct 45 = .ok (.aload_n 0, 1) := by decide +kernel
theorem dX8_readProduct_46 : decode cX8_readProduct 46 = .ok (.dup, 1) := by decide +kernel
theorem dX8_readProduct_47 : decode cX8_readProduct 47 = .ok (.getfield 24, 3) := by decide +kernel
theorem dX8_readProduct_50 : decode cX8_readProduct 50 = .ok (.iconst 1, 1) := by decide +kernel
theorem dX8_readProduct_51 : decode cX8_readProduct 51 = .ok (.iadd, 1) := by decide +kernel
theorem dX8_readProduct_52 : decode cX8_readProduct 52 = .ok (.putfield 24, 3) := by decide +kernel
theorem dX8_readProduct_55 : decode cX8_readProduct 55 = .ok (.aload_n 0, 1) := by decide +kernel
theorem dX8_readProduct_56 : decode cX8_readProduct 56 = .ok (.iload_n 1, 1) := by decide +kernel
theorem dX8_readProduct_57 : decode cX8_readProduct 57 = .ok (.invokevirtual 68, 3) := by decide +kernel
theorem dX8_readProduct_60 : decode cX8_readProduct 60 = .ok (.aload_n 0, 1) := by decide +kernel
theorem dX8_readProduct_61 : decode cX8_readProduct 61 = .ok (.getfield 10, 3) := by decide +kernel
theorem dX8_readProduct_64 : decode cX8_readProduct 64 = .ok (.iload_n 3, 1) := by decide +kernel
theorem dX8_readProduct_65 : decode cX8_readProduct 65 = .ok (.iconst 0, 1) := by decide +kernel
theorem dX8_readProduct_66 : decode cX8_readProduct 66 = .ok (.invokevirtual 49, 3) := by decide +kernel
theorem dX8_readProduct_69 : decode cX8_readProduct 69 = .ok (.pop, 1) := by decide +kernel
theorem dX8_readProduct_70 : decode cX8_readProduct 70 = .ok (.iinc 2 1, 3) := by decide +kernel
theorem dX8_readProduct_73 : decode cX8_readProduct 73 = .ok (.goto (-66), 3) := by decide +kernel
theorem dX8_readProduct_76 : decode cX8_readProduct 76 = .ok (.return_, 1) := by decide +kernel
theorem dX8_readOperand_0 : decode cX8_readOperand 0 = .ok (.aload_n 0, 1) := by decide +kernel
theorem dX8_readOperand_1 : decode cX8_readOperand 1 = .ok (.invokevirtual 41, 3) := by decide +kernel
theorem dX8_readOperand_4 : decode cX8_readOperand 4 = .ok (.invokestatic 71, 3) := by decide +kernel
theorem dX8_readOperand_7 : decode cX8_readOperand 7 = .ok (.istore_n 2, 1) := by decide +kernel
theorem dX8_readOperand_8 : decode cX8_readOperand 8 = .ok (.aload_n 0, 1) := by decide +kernel
theorem dX8_readOperand_9 : decode cX8_readOperand 9 = .ok (.invokevirtual 41, 3) := by decide +kernel
theorem dX8_readOperand_12 : decode cX8_readOperand 12 = .ok (.invokestatic 75, 3) := by decide +kernel
theorem dX8_readOperand_15 : decode cX8_readOperand 15 = .ok (.ifCond .eq 10, 3) := by decide +kernel
theorem dX8_readOperand_18 : decode cX8_readOperand 18 = .ok (.aload_n 0, 1) := by decide +kernel
theorem dX8_readOperand_19 : decode cX8_readOperand 19 = .ok (.invokevirtual 78, 3) := by decide +kernel
theorem dX8_readOperand_22 : decode cX8_readOperand 22 = .ok (.goto 143, 3) := by decide +kernel
theorem dX8_readOperand_25 : decode cX8_readOperand 25 = .ok (.iload_n 2, 1) := by decide +kernel
theorem dX8_readOperand_26 : decode cX8_readOperand 26 = .ok (.ifCond .lt 27, 3) := by decide +kernel
theorem dX8_readOperand_29 : decode cX8_readOperand 29 = .ok (.aload_n 0, 1) := by decide +kernel
theorem dX8_readOperand_30 : decode cX8_readOperand 30 = .ok (.dup, 1) := by decide +kernel
theorem dX8_readOperand_31 : decode cX8_readOperand 31 = .ok (.getfield 24, 3) := by decide +kernel
theorem dX8_readOperand_34 : decode cX8_readOperand 34 = .ok (.iconst 1, 1) := by decide +kernel
theorem dX8_readOperand_35 : decode cX8_readOperand 35 = .ok (.iadd, 1) := by decide +kernel
theorem dX8_readOperand_36 : decode cX8_readOperand 36 = .ok (.putfield 24, 3) := by decide +kernel
theorem dX8_readOperand_39 : decode cX8_readOperand 39 = .ok (.aload_n 0, 1) := by decide +kernel
theorem dX8_readOperand_40 : decode cX8_readOperand 40 = .ok (.getfield 10, 3) := by decide +kernel
theorem dX8_readOperand_43 : decode cX8_readOperand 43 = .ok (.bipush 36, 2) := by decide +kernel
theorem dX8_readOperand_45 : decode cX8_readOperand 45 = .ok (.iload_n 2, 1) := by decide +kernel
theorem dX8_readOperand_46 : decode cX8_readOperand 46 = .ok (.invokevirtual 49, 3) := by decide +kernel
theorem dX8_readOperand_49 : decode cX8_readOperand 49 = .ok (.pop, 1) := by decide +kernel
theorem dX8_readOperand_50 : decode cX8_readOperand 50 = .ok (.goto 115, 3) := by decide +kernel
theorem dX8_readOperand_53 : decode cX8_readOperand 53 = .ok (.iload_n 1, 1) := by decide +kernel
theorem dX8_readOperand_54 : decode cX8_readOperand 54 = .ok (.bipush 6, 2) := by decide +kernel
theorem dX8_readOperand_56 : decode cX8_readOperand 56 = .ok (.if_icmp .lt 11, 3) := by decide +kernel
theorem dX8_readOperand_59 : decode cX8_readOperand 59 = .ok (.aload_n 0, 1) := by decide +kernel
theorem dX8_readOperand_60 : decode cX8_readOperand 60 = .ok (.iconst 1, 1) := by decide +kernel
theorem dX8_readOperand_61 : decode cX8_readOperand 61 = .ok (.putfield 27, 3) := by decide +kernel
theorem dX8_readOperand_64 : decode cX8_readOperand 64 = .ok (.goto 101, 3) := by decide +kernel
theorem dX8_readOperand_67 : decode cX8_readOperand 67 = .ok (.aload_n 0, 1) := by decide +kernel
theorem dX8_readOperand_68 : decode cX8_readOperand 68 = .ok (.bipush 33, 2) := by decide +kernel
theorem dX8_readOperand_70 : decode cX8_readOperand 70 = .ok (.invokevirtual 37, 3) := by decide +kernel
theorem dX8_readOperand_73 : decode cX8_readOperand 73 = .ok (.ifCond .eq 24, 3) := by decide +kernel
theorem dX8_readOperand_76 : decode cX8_readOperand 76 = .ok (.aload_n 0, 1) := by decide +kernel
theorem dX8_readOperand_77 : decode cX8_readOperand 77 = .ok (.iload_n 1, 1) := by decide +kernel
theorem dX8_readOperand_78 : decode cX8_readOperand 78 = .ok (.iconst 1, 1) := by decide +kernel
theorem dX8_readOperand_79 : decode cX8_readOperand 79 = .ok (.iadd, 1) := by decide +kernel
theorem dX8_readOperand_80 : decode cX8_readOperand 80 = .ok (.invokevirtual 68, 3) := by decide +kernel
theorem dX8_readOperand_83 : decode cX8_readOperand 83 = .ok (.aload_n 0, 1) := by decide +kernel
theorem dX8_readOperand_84 : decode cX8_readOperand 84 = .ok (.getfield 10, 3) := by decide +kernel
theorem dX8_readOperand_87 : decode cX8_readOperand 87 = .ok (.bipush 33, 2) := by decide +kernel
theorem dX8_readOperand_89 : decode cX8_readOperand 89 = .ok (.iconst 0, 1) := by decide +kernel
theorem dX8_readOperand_90 : decode cX8_readOperand 90 = .ok (.invokevirtual 49, 3) := by decide +kernel
theorem dX8_readOperand_93 : decode cX8_readOperand 93 = .ok (.pop, 1) := by decide +kernel
theorem dX8_readOperand_94 : decode cX8_readOperand 94 = .ok (.goto 71, 3) := by decide +kernel
theorem dX8_readOperand_97 : decode cX8_readOperand 97 = .ok (.aload_n 0, 1) := by decide +kernel
theorem dX8_readOperand_98 : decode cX8_readOperand 98 = .ok (.bipush 45, 2) := by decide +kernel
theorem dX8_readOperand_100 : decode cX8_readOperand 100 = .ok (.invokevirtual 37, 3) := by decide +kernel
theorem dX8_readOperand_103 : decode cX8_readOperand 103 = .ok (.ifCond .eq 24, 3) := by decide +kernel
theorem dX8_readOperand_106 : decode cX8_readOperand 106 = .ok (.aload_n 0, 1) := by decide +kernel
theorem dX8_readOperand_107 : decode cX8_readOperand 107 = .ok (.iload_n 1, 1) := by decide +kernel
theorem dX8_readOperand_108 : decode cX8_readOperand 108 = .ok (.iconst 1, 1) := by decide +kernel
theorem dX8_readOperand_109 : decode cX8_readOperand 109 = .ok (.iadd, 1) := by decide +kernel
theorem dX8_readOperand_110 : decode cX8_readOperand 110 = .ok (.invokevirtual 68, 3) := by decide +kernel
theorem dX8_readOperand_113 : decode cX8_readOperand 113 = .ok (.aload_n 0, 1) := by decide +kernel
theorem dX8_readOperand_114 : decode cX8_readOperand 114 = .ok (.getfield 10, 3) := by decide +kernel
theorem dX8_readOperand_117 : decode cX8_readOperand 117 = .ok (.bipush 126, 2) := by decide +kernel
theorem dX8_readOperand_119 : decode cX8_readOperand 119 = .ok (.iconst 0, 1) := by decide +kernel
theorem dX8_readOperand_120 : decode cX8_readOperand 120 = .ok (.invokevirtual 49, 3) := by decide +kernel
theorem dX8_readOperand_123 : decode cX8_readOperand 123 = .ok (.pop, 1) := by decide +kernel
theorem dX8_readOperand_124 : decode cX8_readOperand 124 = .ok (.goto 41, 3) := by decide +kernel
theorem dX8_readOperand_127 : decode cX8_readOperand 127 = .ok (.aload_n 0, 1) := by decide +kernel
theorem dX8_readOperand_128 : decode cX8_readOperand 128 = .ok (.bipush 40, 2) := by decide +kernel
theorem dX8_readOperand_130 : decode cX8_readOperand 130 = .ok (.invokevirtual 37, 3) := by decide +kernel
theorem dX8_readOperand_133 : decode cX8_readOperand 133 = .ok (.ifCond .eq 27, 3) := by decide +kernel
theorem dX8_readOperand_136 : decode cX8_readOperand 136 = .ok (.aload_n 0, 1) := by decide +kernel
theorem dX8_readOperand_137 : decode cX8_readOperand 137 = .ok (.iload_n 1, 1) := by decide +kernel
theorem dX8_readOperand_138 : decode cX8_readOperand 138 = .ok (.iconst 1, 1) := by decide +kernel
theorem dX8_readOperand_139 : decode cX8_readOperand 139 = .ok (.iadd, 1) := by decide +kernel
theorem dX8_readOperand_140 : decode cX8_readOperand 140 = .ok (.invokevirtual 45, 3) := by decide +kernel
theorem dX8_readOperand_143 : decode cX8_readOperand 143 = .ok (.aload_n 0, 1) := by decide +kernel
theorem dX8_readOperand_144 : decode cX8_readOperand 144 = .ok (.bipush 41, 2) := by decide +kernel
theorem dX8_readOperand_146 : decode cX8_readOperand 146 = .ok (.invokevirtual 37, 3) := by decide +kernel
theorem dX8_readOperand_149 : decode cX8_readOperand 149 = .ok (.ifCond .ne 16, 3) := by decide +kernel
theorem dX8_readOperand_152 : decode cX8_readOperand 152 = .ok (.aload_n 0, 1) := by decide +kernel
theorem dX8_readOperand_153 : decode cX8_readOperand 153 = .ok (.iconst 1, 1) := by decide +kernel
theorem dX8_readOperand_154 : decode cX8_readOperand 154 = .ok (.putfield 27, 3) := by decide +kernel
theorem dX8_readOperand_157 : decode cX8_readOperand 157 = .ok (.goto 8, 3) := by decide +kernel
theorem dX8_readOperand_160 : decode cX8_readOperand 160 = .ok (.aload_n 0, 1) := by decide +kernel
theorem dX8_readOperand_161 : decode cX8_readOperand 161 = .ok (.iconst 1, 1) := by decide +kernel
theorem dX8_readOperand_162 : decode cX8_readOperand 162 = .ok (.putfield 27, 3) := by decide +kernel
theorem dX8_readOperand_165 : decode cX8_readOperand 165 = .ok (.return_, 1) := by decide +kernel
theorem dX8_readNumber_0 : decode cX8_readNumber 0 = .ok (.iconst 0, 1) := by decide +kernel
theorem dX8_readNumber_1 : decode cX8_readNumber 1 = .ok (.istore_n 1, 1) := by decide +kernel
theorem dX8_readNumber_2 : decode cX8_readNumber 2 = .ok (.iconst 0, 1) := by decide +kernel
theorem dX8_readNumber_3 : decode cX8_readNumber 3 = .ok (.istore_n 2, 1) := by decide +kernel
theorem dX8_readNumber_4 : decode cX8_readNumber 4 = .ok (.iload_n 2, 1) := by decide +kernel
theorem dX8_readNumber_5 : decode cX8_readNumber 5 = .ok (.iconst 4, 1) := by decide +kernel
theorem dX8_readNumber_6 : decode cX8_readNumber 6 = .ok (.if_icmp .ge 42, 3) := by decide +kernel
theorem dX8_readNumber_9 : decode cX8_readNumber 9 = .ok (.aload_n 0, 1) := by decide +kernel
theorem dX8_readNumber_10 : decode cX8_readNumber 10 = .ok (.invokevirtual 41, 3) := by decide +kernel
theorem dX8_readNumber_13 : decode cX8_readNumber 13 = .ok (.invokestatic 75, 3) := by decide +kernel
theorem dX8_readNumber_16 : decode cX8_readNumber 16 = .ok (.ifCond .eq 32, 3) := by decide +kernel
theorem dX8_readNumber_19 : decode cX8_readNumber 19 = .ok (.iload_n 1, 1) := by decide +kernel
theorem dX8_readNumber_20 : decode cX8_readNumber 20 = .ok (.bipush 10, 2) := by decide +kernel
theorem dX8_readNumber_22 : decode cX8_readNumber 22 = .ok (.imul, 1) := by decide +kernel
theorem dX8_readNumber_23 : decode cX8_readNumber 23 = .ok (.aload_n 0, 1) := by decide +kernel
theorem dX8_readNumber_24 : decode cX8_readNumber 24 = .ok (.invokevirtual 41, 3) := by decide +kernel
theorem dX8_readNumber_27 : decode cX8_readNumber 27 = .ok (.iadd, 1) := by decide +kernel
theorem dX8_readNumber_28 : decode cX8_readNumber 28 = .ok (.bipush 48, 2) := by decide +kernel
theorem dX8_readNumber_30 : decode cX8_readNumber 30 = .ok (.isub, 1) := by decide +kernel
theorem dX8_readNumber_31 : decode cX8_readNumber 31 = .ok (.istore_n 1, 1) := by decide +kernel
theorem dX8_readNumber_32 : decode cX8_readNumber 32 = .ok (.aload_n 0, 1) := by decide +kernel
theorem dX8_readNumber_33 : decode cX8_readNumber 33 = .ok (.dup, 1) := by decide +kernel
theorem dX8_readNumber_34 : decode cX8_readNumber 34 = .ok (.getfield 24, 3) := by decide +kernel
theorem dX8_readNumber_37 : decode cX8_readNumber 37 = .ok (.iconst 1, 1) := by decide +kernel
theorem dX8_readNumber_38 : decode cX8_readNumber 38 = .ok (.iadd, 1) := by decide +kernel
theorem dX8_readNumber_39 : decode cX8_readNumber 39 = .ok (.putfield 24, 3) := by decide +kernel
theorem dX8_readNumber_42 : decode cX8_readNumber 42 = .ok (.iinc 2 1, 3) := by decide +kernel
theorem dX8_readNumber_45 : decode cX8_readNumber 45 = .ok (.goto (-41), 3) := by decide +kernel
theorem dX8_readNumber_48 : decode cX8_readNumber 48 = .ok (.aload_n 0, 1) := by decide +kernel
theorem dX8_readNumber_49 : decode cX8_readNumber 49 = .ok (.getfield 10, 3) := by decide +kernel
theorem dX8_readNumber_52 : decode cX8_readNumber 52 = .ok (.bipush 35, 2) := by decide +kernel
theorem dX8_readNumber_54 : decode cX8_readNumber 54 = .ok (.iload_n 1, 1) := by decide +kernel
theorem dX8_readNumber_55 : decode cX8_readNumber 55 = .ok (.invokevirtual 49, 3) := by decide +kernel
theorem dX8_readNumber_58 : decode cX8_readNumber 58 = .ok (.pop, 1) := by decide +kernel
theorem dX8_readNumber_59 : decode cX8_readNumber 59 = .ok (.return_, 1) := by decide +kernel
theorem dX8_isDigit_0 : decode cX8_isDigit 0 = .ok (.iload_n 0, 1) := by decide +kernel
theorem dX8_isDigit_1 : decode cX8_isDigit 1 = .ok (.bipush 48, 2) := by decide +kernel
theorem dX8_isDigit_3 : decode cX8_isDigit 3 = .ok (.if_icmp .lt 13, 3) := by decide +kernel
theorem dX8_isDigit_6 : decode cX8_isDigit 6 = .ok (.iload_n 0, 1) := by decide +kernel
theorem dX8_isDigit_7 : decode cX8_isDigit 7 = .ok (.bipush 57, 2) := by decide +kernel
theorem dX8_isDigit_9 : decode cX8_isDigit 9 = .ok (.if_icmp .gt 7, 3) := by decide +kernel
theorem dX8_isDigit_12 : decode cX8_isDigit 12 = .ok (.iconst 1, 1) := by decide +kernel
theorem dX8_isDigit_13 : decode cX8_isDigit 13 = .ok (.goto 4, 3) := by decide +kernel
theorem dX8_isDigit_16 : decode cX8_isDigit 16 = .ok (.iconst 0, 1) := by decide +kernel
theorem dX8_isDigit_17 : decode cX8_isDigit 17 = .ok (.ireturn, 1) := by decide +kernel
theorem dX8_nameOf_0 : decode cX8_nameOf 0 = .ok (.iload_n 0, 1) := by decide +kernel
theorem dX8_nameOf_1 : decode cX8_nameOf 1 = .ok (.tableswitch 103 103 121 #[93, 103, 103, 103, 99, 95, 103, 103, 97, 103, 103, 103, 103, 103, 103, 103, 91, 103, 101], 91) := by decide +kernel
theorem dX8_nameOf_92 : decode cX8_nameOf 92 = .ok (.iconst 0, 1) := by decide +kernel
theorem dX8_nameOf_93 : decode cX8_nameOf 93 = .ok (.ireturn, 1) := by decide +kernel
theorem dX8_nameOf_94 : decode cX8_nameOf 94 = .ok (.iconst 1, 1) := by decide +kernel
theorem dX8_nameOf_95 : decode cX8_nameOf 95 = .ok (.ireturn, 1) := by decide +kernel
theorem dX8_nameOf_96 : decode cX8_nameOf 96 = .ok (.iconst 2, 1) := by decide +kernel
theorem dX8_nameOf_97 : decode cX8_nameOf 97 = .ok (.ireturn, 1) := by decide +kernel
theorem dX8_nameOf_98 : decode cX8_nameOf 98 = .ok (.iconst 3, 1) := by decide +kernel
theorem dX8_nameOf_99 : decode cX8_nameOf 99 = .ok (.ireturn, 1) := by decide +kernel
theorem dX8_nameOf_100 : decode cX8_nameOf 100 = .ok (.iconst 4, 1) := by decide +kernel
theorem dX8_nameOf_101 : decode cX8_nameOf 101 = .ok (.ireturn, 1) := by decide +kernel
theorem dX8_nameOf_102 : decode cX8_nameOf 102 = .ok (.iconst 5, 1) := by decide +kernel
theorem dX8_nameOf_103 : decode cX8_nameOf 103 = .ok (.ireturn, 1) := by decide +kernel
theorem dX8_nameOf_104 : decode cX8_nameOf 104 = .ok (.iconst (-1), 1) := by decide +kernel
theorem dX8_nameOf_105 : decode cX8_nameOf 105 = .ok (.ireturn, 1) := by decide +kernel
theorem dX9_init_0 : decode cX9_init 0 = .ok (.aload_n 0, 1) := by decide +kernel
theorem dX9_init_1 : decode cX9_init 1 = .ok (.invokespecial 3, 3) := by decide +kernel
theorem dX9_init_4 : decode cX9_init 4 = .ok (.aload_n 0, 1) := by decide +kernel
theorem dX9_init_5 : decode cX9_init 5 = .ok (.aload_n 1, 1) := by decide +kernel
theorem dX9_init_6 : decode cX9_init 6 = .ok (.putfield 9, 3) := by decide +kernel
theorem dX9_init_9 : decode cX9_init 9 = .ok (.aload_n 0, 1) := by decide +kernel
theorem dX9_init_10 : decode cX9_init 10 = .ok (.aload_n 2, 1) := by decide +kernel
theorem dX9_init_11 : decode cX9_init 11 = .ok (.putfield 15, 3) := by decide +kernel
theorem dX9_init_14 : decode cX9_init 14 = .ok (.aload_n 0, 1) := by decide +kernel
theorem dX9_init_15 : decode cX9_init 15 = .ok (.aload_n 3, 1) := by decide +kernel
theorem dX9_init_16 : decode cX9_init 16 = .ok (.putfield 19, 3) := by decide +kernel
theorem dX9_init_19 : decode cX9_init 19 = .ok (.aload_n 0, 1) := by decide +kernel
theorem dX9_init_20 : decode cX9_init 20 = .ok (.new 23, 3) := by decide +kernel
theorem dX9_init_23 : decode cX9_init 23 = .ok (.dup, 1) := by decide +kernel
theorem dX9_init_24 : decode cX9_init 24 = .ok (.aload_n 1, 1) := by decide +kernel
theorem dX9_init_25 : decode cX9_init 25 = .ok (.invokespecial 25, 3) := by decide +kernel
theorem dX9_init_28 : decode cX9_init 28 = .ok (.putfield 28, 3) := by decide +kernel
theorem dX9_init_31 : decode cX9_init 31 = .ok (.return_, 1) := by decide +kernel
theorem dX9_startNow_0 : decode cX9_startNow 0 = .ok (.aload_n 0, 1) := by decide +kernel
theorem dX9_startNow_1 : decode cX9_startNow 1 = .ok (.getfield 28, 3) := by decide +kernel
theorem dX9_startNow_4 : decode cX9_startNow 4 = .ok (.aload_n 0, 1) := by decide +kernel
theorem dX9_startNow_5 : decode cX9_startNow 5 = .ok (.getfield 15, 3) := by decide +kernel
theorem dX9_startNow_8 : decode cX9_startNow 8 = .ok (.aload_n 0, 1) := by decide +kernel
theorem dX9_startNow_9 : decode cX9_startNow 9 = .ok (.getfield 9, 3) := by decide +kernel
theorem dX9_startNow_12 : decode cX9_startNow 12 = .ok (.getfield 31, 3) := by decide +kernel
theorem dX9_startNow_15 : decode cX9_startNow 15 = .ok (.aload_n 0, 1) := by decide +kernel
theorem dX9_startNow_16 : decode cX9_startNow 16 = .ok (.getfield 9, 3) := by decide +kernel
theorem dX9_startNow_19 : decode cX9_startNow 19 = .ok (.getfield 37, 3) := by decide +kernel
theorem dX9_startNow_22 : decode cX9_startNow 22 = .ok (.invokevirtual 40, 3) := by decide +kernel
theorem dX9_startNow_25 : decode cX9_startNow 25 = .ok (.return_, 1) := by decide +kernel
theorem dX9_behind_0 : decode cX9_behind 0 = .ok (.aload_n 0, 1) := by decide +kernel
theorem dX9_behind_1 : decode cX9_behind 1 = .ok (.invokevirtual 44, 3) := by decide +kernel
theorem dX9_behind_4 : decode cX9_behind 4 = .ok (.iconst 0, 1) := by decide +kernel
theorem dX9_behind_5 : decode cX9_behind 5 = .ok (.istore_n 2, 1) := by decide +kernel
theorem dX9_behind_6 : decode cX9_behind 6 = .ok (.iload_n 2, 1) := by decide +kernel
theorem dX9_behind_7 : decode cX9_behind 7 = .ok (.iload_n 1, 1) := by decide +kernel
theorem dX9_behind_8 : decode cX9_behind 8 = .ok (.if_icmp .ge 16, 3) := by decide +kernel
theorem dX9_behind_11 : decode cX9_behind 11 = .ok (.aload_n 0, 1) := by decide +kernel
theorem dX9_behind_12 : decode cX9_behind 12 = .ok (.getfield 28, 3) := by decide +kernel
theorem dX9_behind_15 : decode cX9_behind 15 = .ok (.invokevirtual 47, 3) := by decide +kernel
theorem dX9_behind_18 : decode cX9_behind 18 = .ok (.iinc 2 1, 3) := by decide +kernel
theorem dX9_behind_21 : decode cX9_behind 21 = .ok (.goto (-15), 3) := by decide +kernel
theorem dX9_behind_24 : decode cX9_behind 24 = .ok (.aload_n 0, 1) := by decide +kernel
theorem dX9_behind_25 : decode cX9_behind 25 = .ok (.getfield 28, 3) := by decide +kernel
theorem dX9_behind_28 : decode cX9_behind 28 = .ok (.areturn, 1) := by decide +kernel
theorem dX9_worthBehind_0 : decode cX9_worthBehind 0 = .ok (.aload_n 0, 1) := by decide +kernel
theorem dX9_worthBehind_1 : decode cX9_worthBehind 1 = .ok (.invokevirtual 44, 3) := by decide +kernel
theorem dX9_worthBehind_4 : decode cX9_worthBehind 4 = .ok (.aload_n 0, 1) := by decide +kernel
theorem dX9_worthBehind_5 : decode cX9_worthBehind 5 = .ok (.getfield 9, 3) := by decide +kernel
theorem dX9_worthBehind_8 : decode cX9_worthBehind 8 = .ok (.iload_n 2, 1) := by decide +kernel
theorem dX9_worthBehind_9 : decode cX9_worthBehind 9 = .ok (.invokevirtual 50, 3) := by decide +kernel
theorem dX9_worthBehind_12 : decode cX9_worthBehind 12 = .ok (.ifCond .eq 13, 3) := by decide +kernel
theorem dX9_worthBehind_15 : decode cX9_worthBehind 15 = .ok (.aload_n 0, 1) := by decide +kernel
theorem dX9_worthBehind_16 : decode cX9_worthBehind 16 = .ok (.getfield 28, 3) := by decide +kernel
theorem dX9_worthBehind_19 : decode cX9_worthBehind 19 = .ok (.getfield 54, 3) := by decide +kernel
theorem dX9_worthBehind_22 : decode cX9_worthBehind 22 = .ok (.iload_n 2, 1) := by decide +kernel
theorem dX9_worthBehind_23 : decode cX9_worthBehind 23 = .ok (.iload_n 3, 1) := by decide +kernel
theorem dX9_worthBehind_24 : decode cX9_worthBehind 24 = .ok (.iastore, 1) := by decide +kernel
theorem dX9_worthBehind_25 : decode cX9_worthBehind 25 = .ok (.iconst 0, 1) := by decide +kernel
theorem dX9_worthBehind_26 : decode cX9_worthBehind 26 = .ok (.istore 4, 2) := by decide +kernel
theorem dX9_worthBehind_28 : decode cX9_worthBehind 28 = .ok (.iload 4, 2) := by decide +kernel
theorem dX9_worthBehind_30 : decode cX9_worthBehind 30 = .ok (.iload_n 1, 1) := by decide +kernel
theorem dX9_worthBehind_31 : decode cX9_worthBehind 31 = .ok (.if_icmp .ge 16, 3) := by decide +kernel
theorem dX9_worthBehind_34 : decode cX9_worthBehind 34 = .ok (.aload_n 0, 1) := by decide +kernel
theorem dX9_worthBehind_35 : decode cX9_worthBehind 35 = .ok (.getfield 28, 3) := by decide +kernel
theorem dX9_worthBehind_38 : decode cX9_worthBehind 38 = .ok (.invokevirtual 47, 3) := by decide +kernel
theorem dX9_worthBehind_41 : decode cX9_worthBehind 41 = .ok (.iinc 4 1, 3) := by decide +kernel
theorem dX9_worthBehind_44 : decode cX9_worthBehind 44 = .ok (.goto (-16), 3) := by decide +kernel
theorem dX9_worthBehind_47 : decode cX9_worthBehind 47 = .ok (.aload_n 0, 1) := by decide +kernel
theorem dX9_worthBehind_48 : decode cX9_worthBehind 48 = .ok (.getfield 28, 3) := by decide +kernel
theorem dX9_worthBehind_51 : decode cX9_worthBehind 51 = .ok (.invokevirtual 58, 3) := by decide +kernel
theorem dX9_worthBehind_54 : decode cX9_worthBehind 54 = .ok (.ireturn, 1) := by decide +kernel
theorem dX9_firstDayOf_0 : decode cX9_firstDayOf 0 = .ok (.aload_n 0, 1) := by decide +kernel
theorem dX9_firstDayOf_1 : decode cX9_firstDayOf 1 = .ok (.invokevirtual 44, 3) := by decide +kernel
theorem dX9_firstDayOf_4 : decode cX9_firstDayOf 4 = .ok (.iconst 0, 1) := by decide +kernel
theorem dX9_firstDayOf_5 : decode cX9_firstDayOf 5 = .ok (.istore_n 3, 1) := by decide +kernel
theorem dX9_firstDayOf_6 : decode cX9_firstDayOf 6 = .ok (.iload_n 3, 1) := by decide +kernel
theorem dX9_firstDayOf_7 : decode cX9_firstDayOf 7 = .ok (.bipush 60, 2) := by decide +kernel
theorem dX9_firstDayOf_9 : decode cX9_firstDayOf 9 = .ok (.if_icmp .gt 30, 3) := by decide +kernel
theorem dX9_firstDayOf_12 : decode cX9_firstDayOf 12 = .ok (.aload_n 0, 1) := by decide +kernel
theorem dX9_firstDayOf_13 : decode cX9_firstDayOf 13 = .ok (.getfield 28, 3) := by decide +kernel
theorem dX9_firstDayOf_16 : decode cX9_firstDayOf 16 = .ok (.iload_n 1, 1) := by decide +kernel
theorem dX9_firstDayOf_17 : decode cX9_firstDayOf 17 = .ok (.iload_n 2, 1) := by decide +kernel
theorem dX9_firstDayOf_18 : decode cX9_firstDayOf 18 = .ok (.invokevirtual 62, 3) := by decide +kernel
theorem dX9_firstDayOf_21 : decode cX9_firstDayOf 21 = .ok (.ifCond .eq 5, 3) := by decide +kernel
theorem dX9_firstDayOf_24 : decode cX9_firstDayOf 24 = .ok (.iload_n 3, 1) := by decide +kernel
theorem dX9_firstDayOf_25 : decode cX9_firstDayOf 25 = .ok (.ireturn, 1) := by decide +kernel
theorem dX9_firstDayOf_26 : decode cX9_firstDayOf 26 = .ok (.aload_n 0, 1) := by decide +kernel
theorem dX9_firstDayOf_27 : decode cX9_firstDayOf 27 = .ok (.getfield 28, 3) := by decide +kernel
theorem dX9_firstDayOf_30 : decode cX9_firstDayOf 30 = .ok (.invokevirtual 47, 3) := by decide +kernel
theorem dX9_firstDayOf_33 : decode cX9_firstDayOf 33 = .ok (.iinc 3 1, 3) := by decide +kernel
theorem dX9_firstDayOf_36 : decode cX9_firstDayOf 36 = .ok (.goto (-30), 3) := by decide +kernel
theorem dX9_firstDayOf_39 : decode cX9_firstDayOf 39 = .ok (.bipush (-2), 2) := by decide +kernel
theorem dX9_firstDayOf_41 : decode cX9_firstDayOf 41 = .ok (.ireturn, 1) := by decide +kernel
theorem dX9_seekMove_0 : decode cX9_seekMove 0 = .ok (.aload_n 0, 1) := by decide +kernel
theorem dX9_seekMove_1 : decode cX9_seekMove 1 = .ok (.aload_n 0, 1) := by decide +kernel
theorem dX9_seekMove_2 : decode cX9_seekMove 2 = .ok (.iload_n 1, 1) := by decide +kernel
theorem dX9_seekMove_3 : decode cX9_seekMove 3 = .ok (.iconst (-1), 1) := by decide +kernel
theorem dX9_seekMove_4 : decode cX9_seekMove 4 = .ok (.iconst 0, 1) := by decide +kernel
theorem dX9_seekMove_5 : decode cX9_seekMove 5 = .ok (.invokevirtual 66, 3) := by decide +kernel
theorem dX9_seekMove_8 : decode cX9_seekMove 8 = .ok (.putfield 70, 3) := by decide +kernel
theorem dX9_seekMove_11 : decode cX9_seekMove 11 = .ok (.aload_n 0, 1) := by decide +kernel
theorem dX9_seekMove_12 : decode cX9_seekMove 12 = .ok (.bipush 99, 2) := by decide +kernel
theorem dX9_seekMove_14 : decode cX9_seekMove 14 = .ok (.putfield 73, 3) := by decide +kernel
theorem dX9_seekMove_17 : decode cX9_seekMove 17 = .ok (.iconst 0, 1) := by decide +kernel
theorem dX9_seekMove_18 : decode cX9_seekMove 18 = .ok (.istore_n 2, 1) := by decide +kernel
theorem dX9_seekMove_19 : decode cX9_seekMove 19 = .ok (.iload_n 2, 1) := by decide +kernel
theorem dX9_seekMove_20 : decode cX9_seekMove 20 = .ok (.bipush 12, 2) := by decide +kernel
theorem dX9_seekMove_22 : decode cX9_seekMove 22 = .ok (.aload_n 0, 1) := by decide +kernel
theorem dX9_seekMove_23 : decode cX9_seekMove 23 = .ok (.getfield 9, 3) := by decide +kernel
theorem dX9_seekMove_26 : decode cX9_seekMove 26 = .ok (.getfield 31, 3) := by decide +kernel
theorem dX9_seekMove_29 : decode cX9_seekMove 29 = .ok (.imul, 1) := by decide +kernel
theorem dX9_seekMove_30 : decode cX9_seekMove 30 = .ok (.if_icmp .ge 41, 3) := by decide +kernel
theorem dX9_seekMove_33 : decode cX9_seekMove 33 = .ok (.aload_n 0, 1) := by decide +kernel
theorem dX9_seekMove_34 : decode cX9_seekMove 34 = .ok (.iload_n 1, 1) := by decide +kernel
theorem dX9_seekMove_35 : decode cX9_seekMove 35 = .ok (.iload_n 2, 1) := by decide +kernel
theorem dX9_seekMove_36 : decode cX9_seekMove 36 = .ok (.bipush 12, 2) := by decide +kernel
theorem dX9_seekMove_38 : decode cX9_seekMove 38 = .ok (.idiv, 1) := by decide +kernel
theorem dX9_seekMove_39 : decode cX9_seekMove 39 = .ok (.iload_n 2, 1) := by decide +kernel
theorem dX9_seekMove_40 : decode cX9_seekMove 40 = .ok (.bipush 12, 2) := by decide +kernel
theorem dX9_seekMove_42 : decode cX9_seekMove 42 = .ok (.irem, 1) := by decide +kernel
theorem dX9_seekMove_43 : decode cX9_seekMove 43 = .ok (.invokevirtual 66, 3) := by decide +kernel
theorem dX9_seekMove_46 : decode cX9_seekMove 46 = .ok (.istore_n 3, 1) := by decide +kernel
theorem dX9_seekMove_47 : decode cX9_seekMove 47 = .ok (.iload_n 3, 1) := by decide +kernel
theorem dX9_seekMove_48 : decode cX9_seekMove 48 = .ok (.aload_n 0, 1) := by decide +kernel
theorem dX9_seekMove_49 : decode cX9_seekMove 49 = .ok (.getfield 70, 3) := by decide +kernel
theorem dX9_seekMove_52 : decode cX9_seekMove 52 = .ok (.if_icmp .le 13, 3) := by decide +kernel
theorem dX9_seekMove_55 : decode cX9_seekMove 55 = .ok (.aload_n 0, 1) := by decide +kernel
theorem dX9_seekMove_56 : decode cX9_seekMove 56 = .ok (.iload_n 3, 1) := by decide +kernel
theorem dX9_seekMove_57 : decode cX9_seekMove 57 = .ok (.putfield 70, 3) := by decide +kernel
theorem dX9_seekMove_60 : decode cX9_seekMove 60 = .ok (.aload_n 0, 1) := by decide +kernel
theorem dX9_seekMove_61 : decode cX9_seekMove 61 = .ok (.iload_n 2, 1) := by decide +kernel
theorem dX9_seekMove_62 : decode cX9_seekMove 62 = .ok (.putfield 73, 3) := by decide +kernel
theorem dX9_seekMove_65 : decode cX9_seekMove 65 = .ok (.iinc 2 1, 3) := by decide +kernel
theorem dX9_seekMove_68 : decode cX9_seekMove 68 = .ok (.goto (-49), 3) := by decide +kernel
theorem dX9_seekMove_71 : decode cX9_seekMove 71 = .ok (.return_, 1) := by decide +kernel
theorem dX9_seekDue_0 : decode cX9_seekDue 0 = .ok (.aload_n 0, 1) := by decide +kernel
theorem dX9_seekDue_1 : decode cX9_seekDue 1 = .ok (.getfield 9, 3) := by decide +kernel
theorem dX9_seekDue_4 : decode cX9_seekDue 4 = .ok (.getfield 76, 3) := by decide +kernel
theorem dX9_seekDue_7 : decode cX9_seekDue 7 = .ok (.iload_n 1, 1) := by decide +kernel
theorem dX9_seekDue_8 : decode cX9_seekDue 8 = .ok (.iaload, 1) := by decide +kernel
theorem dX9_seekDue_9 : decode cX9_seekDue 9 = .ok (.istore_n 3, 1) := by decide +kernel
theorem dX9_seekDue_10 : decode cX9_seekDue 10 = .ok (.aload_n 0, 1) := by decide +kernel
theorem dX9_seekDue_11 : decode cX9_seekDue 11 = .ok (.iconst (-1), 1) := by decide +kernel
theorem dX9_seekDue_12 : decode cX9_seekDue 12 = .ok (.putfield 70, 3) := by decide +kernel
theorem dX9_seekDue_15 : decode cX9_seekDue 15 = .ok (.iconst 0, 1) := by decide +kernel
theorem dX9_seekDue_16 : decode cX9_seekDue 16 = .ok (.istore 4, 2) := by decide +kernel
theorem dX9_seekDue_18 : decode cX9_seekDue 18 = .ok (.iload 4, 2) := by decide +kernel
theorem dX9_seekDue_20 : decode cX9_seekDue 20 = .ok (.bipush 99, 2) := by decide +kernel
theorem dX9_seekDue_22 : decode cX9_seekDue 22 = .ok (.if_icmp .gt 50, 3) := by decide +kernel
theorem dX9_seekDue_25 : decode cX9_seekDue 25 = .ok (.aload_n 0, 1) := by decide +kernel
theorem dX9_seekDue_26 : decode cX9_seekDue 26 = .ok (.getfield 9, 3) := by decide +kernel
theorem dX9_seekDue_29 : decode cX9_seekDue 29 = .ok (.getfield 76, 3) := by decide +kernel
theorem dX9_seekDue_32 : decode cX9_seekDue 32 = .ok (.iload_n 1, 1) := by decide +kernel
theorem dX9_seekDue_33 : decode cX9_seekDue 33 = .ok (.iload 4, 2) := by decide +kernel
theorem dX9_seekDue_35 : decode cX9_seekDue 35 = .ok (.iastore, 1) := by decide +kernel
theorem dX9_seekDue_36 : decode cX9_seekDue 36 = .ok (.aload_n 0, 1) := by decide +kernel
theorem dX9_seekDue_37 : decode cX9_seekDue 37 = .ok (.iload_n 2, 1) := by decide +kernel
theorem dX9_seekDue_38 : decode cX9_seekDue 38 = .ok (.iconst (-1), 1) := by decide +kernel
theorem dX9_seekDue_39 : decode cX9_seekDue 39 = .ok (.iconst 0, 1) := by decide +kernel
theorem dX9_seekDue_40 : decode cX9_seekDue 40 = .ok (.invokevirtual 66, 3) := by decide +kernel
theorem dX9_seekDue_43 : decode cX9_seekDue 43 = .ok (.istore 5, 2) := by decide +kernel
theorem dX9_seekDue_45 : decode cX9_seekDue 45 = .ok (.iload 5, 2) := by decide +kernel
theorem dX9_seekDue_47 : decode cX9_seekDue 47 = .ok (.aload_n 0, 1) := by decide +kernel
theorem dX9_seekDue_48 : decode cX9_seekDue 48 = .ok (.getfield 70, 3) := by decide +kernel
theorem dX9_seekDue_51 : decode cX9_seekDue 51 = .ok (.if_icmp .le 15, 3) := by decide +kernel
theorem dX9_seekDue_54 : decode cX9_seekDue 54 = .ok (.aload_n 0, 1) := by decide +kernel
theorem dX9_seekDue_55 : decode cX9_seekDue 55 = .ok (.iload 5, 2) := by decide +kernel
theorem dX9_seekDue_57 : decode cX9_seekDue 57 = .ok (.putfield 70, 3) := by decide +kernel
theorem dX9_seekDue_60 : decode cX9_seekDue 60 = .ok (.aload_n 0, 1) := by decide +kernel
theorem dX9_seekDue_61 : decode cX9_seekDue 61 = .ok (.iload 4, 2) := by decide +kernel
theorem dX9_seekDue_63 : decode cX9_seekDue 63 = .ok (.putfield 73, 3) := by decide +kernel
theorem dX9_seekDue_66 : decode cX9_seekDue 66 = .ok (.iinc 4 1, 3) := by decide +kernel
theorem dX9_seekDue_69 : decode cX9_seekDue 69 = .ok (.goto (-51), 3) := by decide +kernel
theorem dX9_seekDue_72 : decode cX9_seekDue 72 = .ok (.aload_n 0, 1) := by decide +kernel
theorem dX9_seekDue_73 : decode cX9_seekDue 73 = .ok (.getfield 9, 3) := by decide +kernel
theorem dX9_seekDue_76 : decode cX9_seekDue 76 = .ok (.getfield 76, 3) := by decide +kernel
theorem dX9_seekDue_79 : decode cX9_seekDue 79 = .ok (.iload_n 1, 1) := by decide +kernel
theorem dX9_seekDue_80 : decode cX9_seekDue 80 = .ok (.iload_n 3, 1) := by decide +kernel
theorem dX9_seekDue_81 : decode cX9_seekDue 81 = .ok (.iastore, 1) := by decide +kernel
theorem dX9_seekDue_82 : decode cX9_seekDue 82 = .ok (.return_, 1) := by decide +kernel
theorem dX9_firstUnlike_0 : decode cX9_firstUnlike 0 = .ok (.aload_n 0, 1) := by decide +kernel
theorem dX9_firstUnlike_1 : decode cX9_firstUnlike 1 = .ok (.invokevirtual 44, 3) := by decide +kernel
theorem dX9_firstUnlike_4 : decode cX9_firstUnlike 4 = .ok (.aload_n 0, 1) := by decide +kernel
theorem dX9_firstUnlike_5 : decode cX9_firstUnlike 5 = .ok (.getfield 19, 3) := by decide +kernel
theorem dX9_firstUnlike_8 : decode cX9_firstUnlike 8 = .ok (.iload_n 1, 1) := by decide +kernel
theorem dX9_firstUnlike_9 : decode cX9_firstUnlike 9 = .ok (.invokevirtual 79, 3) := by decide +kernel
theorem dX9_firstUnlike_12 : decode cX9_firstUnlike 12 = .ok (.bipush 41, 2) := by decide +kernel
theorem dX9_firstUnlike_14 : decode cX9_firstUnlike 14 = .ok (.invokestatic 85, 3) := by decide +kernel
theorem dX9_firstUnlike_17 : decode cX9_firstUnlike 17 = .ok (.istore_n 3, 1) := by decide +kernel
theorem dX9_firstUnlike_18 : decode cX9_firstUnlike 18 = .ok (.iconst 0, 1) := by decide +kernel
theorem dX9_firstUnlike_19 : decode cX9_firstUnlike 19 = .ok (.istore 4, 2) := by decide +kernel
theorem dX9_firstUnlike_21 : decode cX9_firstUnlike 21 = .ok (.iload 4, 2) := by decide +kernel
theorem dX9_firstUnlike_23 : decode cX9_firstUnlike 23 = .ok (.iload_n 3, 1) := by decide +kernel
theorem dX9_firstUnlike_24 : decode cX9_firstUnlike 24 = .ok (.if_icmp .ge 63, 3) := by decide +kernel
theorem dX9_firstUnlike_27 : decode cX9_firstUnlike 27 = .ok (.aload_n 0, 1) := by decide +kernel
theorem dX9_firstUnlike_28 : decode cX9_firstUnlike 28 = .ok (.getfield 19, 3) := by decide +kernel
theorem dX9_firstUnlike_31 : decode cX9_firstUnlike 31 = .ok (.iload_n 1, 1) := by decide +kernel
theorem dX9_firstUnlike_32 : decode cX9_firstUnlike 32 = .ok (.iload 4, 2) := by decide +kernel
theorem dX9_firstUnlike_34 : decode cX9_firstUnlike 34 = .ok (.invokevirtual 91, 3) := by decide +kernel
theorem dX9_firstUnlike_37 : decode cX9_firstUnlike 37 = .ok (.lstore 5, 2) := by decide +kernel
theorem dX9_firstUnlike_39 : decode cX9_firstUnlike 39 = .ok (.lload 5, 2) := by decide +kernel
theorem dX9_firstUnlike_41 : decode cX9_firstUnlike 41 = .ok (.ldc2_w 95, 3) := by decide +kernel
theorem dX9_firstUnlike_44 : decode cX9_firstUnlike 44 = .ok (.lcmp, 1) := by decide +kernel
theorem dX9_firstUnlike_45 : decode cX9_firstUnlike 45 = .ok (.ifCond .eq 29, 3) := by decide +kernel
theorem dX9_firstUnlike_48 : decode cX9_firstUnlike 48 = .ok (.lload 5, 2) := by decide +kernel
theorem dX9_firstUnlike_50 : decode cX9_firstUnlike 50 = .ok (.aload_n 0, 1) := by decide +kernel
theorem dX9_firstUnlike_51 : decode cX9_firstUnlike 51 = .ok (.getfield 28, 3) := by decide +kernel
theorem dX9_firstUnlike_54 : decode cX9_firstUnlike 54 = .ok (.iload_n 2, 1) := by decide +kernel
theorem dX9_firstUnlike_55 : decode cX9_firstUnlike 55 = .ok (.invokevirtual 97, 3) := by decide +kernel
theorem dX9_firstUnlike_58 : decode cX9_firstUnlike 58 = .ok (.ifCond .eq 7, 3) := by decide +kernel
theorem dX9_firstUnlike_61 : decode cX9_firstUnlike 61 = .ok (.iconst 1, 1) := by decide +kernel
theorem dX9_firstUnlike_62 : decode cX9_firstUnlike 62 = .ok (.goto 4, 3) := by decide +kernel
theorem dX9_firstUnlike_65 : decode cX9_firstUnlike 65 = .ok (.iconst 0, 1) := by decide +kernel
theorem dX9_firstUnlike_66 : decode cX9_firstUnlike 66 = .ok (.i2l, 1) := by decide +kernel
theorem dX9_firstUnlike_67 : decode cX9_firstUnlike 67 = .ok (.lcmp, 1) := by decide +kernel
theorem dX9_firstUnlike_68 : decode cX9_firstUnlike 68 = .ok (.ifCond .eq 6, 3) := by decide +kernel
theorem dX9_firstUnlike_71 : decode cX9_firstUnlike 71 = .ok (.iload 4, 2) := by decide +kernel
theorem dX9_firstUnlike_73 : decode cX9_firstUnlike 73 = .ok (.ireturn, 1) := by decide +kernel
theorem dX9_firstUnlike_74 : decode cX9_firstUnlike 74 = .ok (.aload_n 0, 1) := by decide +kernel
theorem dX9_firstUnlike_75 : decode cX9_firstUnlike 75 = .ok (.getfield 28, 3) := by decide +kernel
theorem dX9_firstUnlike_78 : decode cX9_firstUnlike 78 = .ok (.invokevirtual 47, 3) := by decide +kernel
theorem dX9_firstUnlike_81 : decode cX9_firstUnlike 81 = .ok (.iinc 4 1, 3) := by decide +kernel
theorem dX9_firstUnlike_84 : decode cX9_firstUnlike 84 = .ok (.goto (-63), 3) := by decide +kernel
theorem dX9_firstUnlike_87 : decode cX9_firstUnlike 87 = .ok (.bipush (-2), 2) := by decide +kernel
theorem dX9_firstUnlike_89 : decode cX9_firstUnlike 89 = .ok (.ireturn, 1) := by decide +kernel
theorem dX9_seekFits_0 : decode cX9_seekFits 0 = .ok (.aload_n 0, 1) := by decide +kernel
theorem dX9_seekFits_1 : decode cX9_seekFits 1 = .ok (.iconst 0, 1) := by decide +kernel
theorem dX9_seekFits_2 : decode cX9_seekFits 2 = .ok (.putfield 70, 3) := by decide +kernel
theorem dX9_seekFits_5 : decode cX9_seekFits 5 = .ok (.aload_n 0, 1) := by decide +kernel
theorem dX9_seekFits_6 : decode cX9_seekFits 6 = .ok (.bipush (-2), 2) := by decide +kernel
theorem dX9_seekFits_8 : decode cX9_seekFits 8 = .ok (.putfield 73, 3) := by decide +kernel
theorem dX9_seekFits_11 : decode cX9_seekFits 11 = .ok (.iload_n 3, 1) := by decide +kernel
theorem dX9_seekFits_12 : decode cX9_seekFits 12 = .ok (.ifCond .lt 10, 3) := by decide +kernel
theorem dX9_seekFits_15 : decode cX9_seekFits 15 = .ok (.iload_n 3, 1) := by decide +kernel
theorem dX9_seekFits_16 : decode cX9_seekFits 16 = .ok (.aload 4, 2) := by decide +kernel
theorem dX9_seekFits_18 : decode cX9_seekFits 18 = .ok (.arraylength, 1) := by decide +kernel
theorem dX9_seekFits_19 : decode cX9_seekFits 19 = .ok (.if_icmp .lt 4, 3) := by decide +kernel
theorem dX9_seekFits_22 : decode cX9_seekFits 22 = .ok (.return_, 1) := by decide +kernel
theorem dX9_seekFits_23 : decode cX9_seekFits 23 = .ok (.aload 4, 2) := by decide +kernel
theorem dX9_seekFits_25 : decode cX9_seekFits 25 = .ok (.iload_n 3, 1) := by decide +kernel
theorem dX9_seekFits_26 : decode cX9_seekFits 26 = .ok (.iaload, 1) := by decide +kernel
theorem dX9_seekFits_27 : decode cX9_seekFits 27 = .ok (.istore 6, 2) := by decide +kernel
theorem dX9_seekFits_29 : decode cX9_seekFits 29 = .ok (.iconst 0, 1) := by decide +kernel
theorem dX9_seekFits_30 : decode cX9_seekFits 30 = .ok (.istore 7, 2) := by decide +kernel
theorem dX9_seekFits_32 : decode cX9_seekFits 32 = .ok (.iload 7, 2) := by decide +kernel
theorem dX9_seekFits_34 : decode cX9_seekFits 34 = .ok (.iload 5, 2) := by decide +kernel
theorem dX9_seekFits_36 : decode cX9_seekFits 36 = .ok (.if_icmp .gt 52, 3) := by decide +kernel
theorem dX9_seekFits_39 : decode cX9_seekFits 39 = .ok (.aload 4, 2) := by decide +kernel
theorem dX9_seekFits_41 : decode cX9_seekFits 41 = .ok (.iload_n 3, 1) := by decide +kernel
theorem dX9_seekFits_42 : decode cX9_seekFits 42 = .ok (.iload 7, 2) := by decide +kernel
theorem dX9_seekFits_44 : decode cX9_seekFits 44 = .ok (.iastore, 1) := by decide +kernel
theorem dX9_seekFits_45 : decode cX9_seekFits 45 = .ok (.aload_n 0, 1) := by decide +kernel
theorem dX9_seekFits_46 : decode cX9_seekFits 46 = .ok (.iload_n 1, 1) := by decide +kernel
theorem dX9_seekFits_47 : decode cX9_seekFits 47 = .ok (.iload_n 2, 1) := by decide +kernel
theorem dX9_seekFits_48 : decode cX9_seekFits 48 = .ok (.invokevirtual 100, 3) := by decide +kernel
theorem dX9_seekFits_51 : decode cX9_seekFits 51 = .ok (.bipush (-2), 2) := by decide +kernel
theorem dX9_seekFits_53 : decode cX9_seekFits 53 = .ok (.if_icmp .eq 6, 3) := by decide +kernel
theorem dX9_seekFits_56 : decode cX9_seekFits 56 = .ok (.goto 26, 3) := by decide +kernel
theorem dX9_seekFits_59 : decode cX9_seekFits 59 = .ok (.aload_n 0, 1) := by decide +kernel
theorem dX9_seekFits_60 : decode cX9_seekFits 60 = .ok (.getfield 70, 3) := by decide +kernel
theorem dX9_seekFits_63 : decode cX9_seekFits 63 = .ok (.ifCond .ne 9, 3) := by decide +kernel
theorem dX9_seekFits_66 : decode cX9_seekFits 66 = .ok (.aload_n 0, 1) := by decide +kernel
theorem dX9_seekFits_67 : decode cX9_seekFits 67 = .ok (.iload 7, 2) := by decide +kernel
theorem dX9_seekFits_69 : decode cX9_seekFits 69 = .ok (.putfield 73, 3) := by decide +kernel
theorem dX9_seekFits_72 : decode cX9_seekFits 72 = .ok (.aload_n 0, 1) := by decide +kernel
theorem dX9_seekFits_73 : decode cX9_seekFits 73 = .ok (.dup, 1) := by decide +kernel
theorem dX9_seekFits_74 : decode cX9_seekFits 74 = .ok (.getfield 70, 3) := by decide +kernel
theorem dX9_seekFits_77 : decode cX9_seekFits 77 = .ok (.iconst 1, 1) := by decide +kernel
theorem dX9_seekFits_78 : decode cX9_seekFits 78 = .ok (.iadd, 1) := by decide +kernel
theorem dX9_seekFits_79 : decode cX9_seekFits 79 = .ok (.putfield 70, 3) := by decide +kernel
theorem dX9_seekFits_82 : decode cX9_seekFits 82 = .ok (.iinc 7 1, 3) := by decide +kernel
theorem dX9_seekFits_85 : decode cX9_seekFits 85 = .ok (.goto (-53), 3) := by decide +kernel
theorem dX9_seekFits_88 : decode cX9_seekFits 88 = .ok (.aload 4, 2) := by decide +kernel
theorem dX9_seekFits_90 : decode cX9_seekFits 90 = .ok (.iload_n 3, 1) := by decide +kernel
theorem dX9_seekFits_91 : decode cX9_seekFits 91 = .ok (.iload 6, 2) := by decide +kernel
theorem dX9_seekFits_93 : decode cX9_seekFits 93 = .ok (.iastore, 1) := by decide +kernel
theorem dX9_seekFits_94 : decode cX9_seekFits 94 = .ok (.return_, 1) := by decide +kernel
theorem dX9_drawLanes_0 : decode cX9_drawLanes 0 = .ok (.iload_n 1, 1) := by decide +kernel
theorem dX9_drawLanes_1 : decode cX9_drawLanes 1 = .ok (.istore 6, 2) := by decide +kernel
theorem dX9_drawLanes_3 : decode cX9_drawLanes 3 = .ok (.iconst 0, 1) := by decide +kernel
theorem dX9_drawLanes_4 : decode cX9_drawLanes 4 = .ok (.istore 7, 2) := by decide +kernel
theorem dX9_drawLanes_6 : decode cX9_drawLanes 6 = .ok (.iconst 0, 1) := by decide +kernel
theorem dX9_drawLanes_7 : decode cX9_drawLanes 7 = .ok (.istore 8, 2) := by decide +kernel
theorem dX9_drawLanes_9 : decode cX9_drawLanes 9 = .ok (.iload 8, 2) := by decide +kernel
theorem dX9_drawLanes_11 : decode cX9_drawLanes 11 = .ok (.iload_n 2, 1) := by decide +kernel
theorem dX9_drawLanes_12 : decode cX9_drawLanes 12 = .ok (.if_icmp .ge 89, 3) := by decide +kernel
theorem dX9_drawLanes_15 : decode cX9_drawLanes 15 = .ok (.aload_n 0, 1) := by decide +kernel
theorem dX9_drawLanes_16 : decode cX9_drawLanes 16 = .ok (.invokevirtual 44, 3) := by decide +kernel
theorem dX9_drawLanes_19 : decode cX9_drawLanes 19 = .ok (.iconst 0, 1) := by decide +kernel
theorem dX9_drawLanes_20 : decode cX9_drawLanes 20 = .ok (.istore 9, 2) := by decide +kernel
theorem dX9_drawLanes_22 : decode cX9_drawLanes 22 = .ok (.iload 9, 2) := by decide +kernel
theorem dX9_drawLanes_24 : decode cX9_drawLanes 24 = .ok (.iload_n 3, 1) := by decide +kernel
theorem dX9_drawLanes_25 : decode cX9_drawLanes 25 = .ok (.if_icmp .ge 35, 3) := by decide +kernel
theorem dX9_drawLanes_28 : decode cX9_drawLanes 28 = .ok (.iload 6, 2) := by decide +kernel
theorem dX9_drawLanes_30 : decode cX9_drawLanes 30 = .ok (.ldc 103, 2) := by decide +kernel
theorem dX9_drawLanes_32 : decode cX9_drawLanes 32 = .ok (.imul, 1) := by decide +kernel
theorem dX9_drawLanes_33 : decode cX9_drawLanes 33 = .ok (.sipush 12345, 3) := by decide +kernel
theorem dX9_drawLanes_36 : decode cX9_drawLanes 36 = .ok (.iadd, 1) := by decide +kernel
theorem dX9_drawLanes_37 : decode cX9_drawLanes 37 = .ok (.istore 6, 2) := by decide +kernel
theorem dX9_drawLanes_39 : decode cX9_drawLanes 39 = .ok (.aload_n 0, 1) := by decide +kernel
theorem dX9_drawLanes_40 : decode cX9_drawLanes 40 = .ok (.iload 6, 2) := by decide +kernel
theorem dX9_drawLanes_42 : decode cX9_drawLanes 42 = .ok (.iload 4, 2) := by decide +kernel
theorem dX9_drawLanes_44 : decode cX9_drawLanes 44 = .ok (.invokevirtual 104, 3) := by decide +kernel
theorem dX9_drawLanes_47 : decode cX9_drawLanes 47 = .ok (.aload_n 0, 1) := by decide +kernel
theorem dX9_drawLanes_48 : decode cX9_drawLanes 48 = .ok (.getfield 28, 3) := by decide +kernel
theorem dX9_drawLanes_51 : decode cX9_drawLanes 51 = .ok (.invokevirtual 47, 3) := by decide +kernel
theorem dX9_drawLanes_54 : decode cX9_drawLanes 54 = .ok (.iinc 9 1, 3) := by decide +kernel
theorem dX9_drawLanes_57 : decode cX9_drawLanes 57 = .ok (.goto (-35), 3) := by decide +kernel
theorem dX9_drawLanes_60 : decode cX9_drawLanes 60 = .ok (.iload 5, 2) := by decide +kernel
theorem dX9_drawLanes_62 : decode cX9_drawLanes 62 = .ok (.ifCond .ge 18, 3) := by decide +kernel
theorem dX9_drawLanes_65 : decode cX9_drawLanes 65 = .ok (.iload 7, 2) := by decide +kernel
theorem dX9_drawLanes_67 : decode cX9_drawLanes 67 = .ok (.aload_n 0, 1) := by decide +kernel
theorem dX9_drawLanes_68 : decode cX9_drawLanes 68 = .ok (.getfield 28, 3) := by decide +kernel
theorem dX9_drawLanes_71 : decode cX9_drawLanes 71 = .ok (.invokevirtual 58, 3) := by decide +kernel
theorem dX9_drawLanes_74 : decode cX9_drawLanes 74 = .ok (.iadd, 1) := by decide +kernel
theorem dX9_drawLanes_75 : decode cX9_drawLanes 75 = .ok (.istore 7, 2) := by decide +kernel
theorem dX9_drawLanes_77 : decode cX9_drawLanes 77 = .ok (.goto 18, 3) := by decide +kernel
theorem dX9_drawLanes_80 : decode cX9_drawLanes 80 = .ok (.aload_n 0, 1) := by decide +kernel
theorem dX9_drawLanes_81 : decode cX9_drawLanes 81 = .ok (.getfield 28, 3) := by decide +kernel
theorem dX9_drawLanes_84 : decode cX9_drawLanes 84 = .ok (.iload 5, 2) := by decide +kernel
theorem dX9_drawLanes_86 : decode cX9_drawLanes 86 = .ok (.invokevirtual 108, 3) := by decide +kernel
theorem dX9_drawLanes_89 : decode cX9_drawLanes 89 = .ok (.ifCond .eq 6, 3) := by decide +kernel
theorem dX9_drawLanes_92 : decode cX9_drawLanes 92 = .ok (.iinc 7 1, 3) := by decide +kernel
theorem dX9_drawLanes_95 : decode cX9_drawLanes 95 = .ok (.iinc 8 1, 3) := by decide +kernel
theorem dX9_drawLanes_98 : decode cX9_drawLanes 98 = .ok (.goto (-89), 3) := by decide +kernel
theorem dX9_drawLanes_101 : decode cX9_drawLanes 101 = .ok (.iload 7, 2) := by decide +kernel
theorem dX9_drawLanes_103 : decode cX9_drawLanes 103 = .ok (.ireturn, 1) := by decide +kernel
theorem dX9_moveByDraw_0 : decode cX9_moveByDraw 0 = .ok (.aload_n 0, 1) := by decide +kernel
theorem dX9_moveByDraw_1 : decode cX9_moveByDraw 1 = .ok (.getfield 9, 3) := by decide +kernel
theorem dX9_moveByDraw_4 : decode cX9_moveByDraw 4 = .ok (.getfield 31, 3) := by decide +kernel
theorem dX9_moveByDraw_7 : decode cX9_moveByDraw 7 = .ok (.ifCond .le 14, 3) := by decide +kernel
theorem dX9_moveByDraw_10 : decode cX9_moveByDraw 10 = .ok (.iload_n 1, 1) := by decide +kernel
theorem dX9_moveByDraw_11 : decode cX9_moveByDraw 11 = .ok (.bipush 24, 2) := by decide +kernel
theorem dX9_moveByDraw_13 : decode cX9_moveByDraw 13 = .ok (.iushr, 1) := by decide +kernel
theorem dX9_moveByDraw_14 : decode cX9_moveByDraw 14 = .ok (.bipush 12, 2) := by decide +kernel
theorem dX9_moveByDraw_16 : decode cX9_moveByDraw 16 = .ok (.irem, 1) := by decide +kernel
theorem dX9_moveByDraw_17 : decode cX9_moveByDraw 17 = .ok (.iload_n 2, 1) := by decide +kernel
theorem dX9_moveByDraw_18 : decode cX9_moveByDraw 18 = .ok (.if_icmp .lt 4, 3) := by decide +kernel
theorem dX9_moveByDraw_21 : decode cX9_moveByDraw 21 = .ok (.return_, 1) := by decide +kernel
theorem dX9_moveByDraw_22 : decode cX9_moveByDraw 22 = .ok (.iload_n 1, 1) := by decide +kernel
theorem dX9_moveByDraw_23 : decode cX9_moveByDraw 23 = .ok (.bipush 8, 2) := by decide +kernel
theorem dX9_moveByDraw_25 : decode cX9_moveByDraw 25 = .ok (.iushr, 1) := by decide +kernel
theorem dX9_moveByDraw_26 : decode cX9_moveByDraw 26 = .ok (.aload_n 0, 1) := by decide +kernel
theorem dX9_moveByDraw_27 : decode cX9_moveByDraw 27 = .ok (.getfield 9, 3) := by decide +kernel
theorem dX9_moveByDraw_30 : decode cX9_moveByDraw 30 = .ok (.getfield 31, 3) := by decide +kernel
theorem dX9_moveByDraw_33 : decode cX9_moveByDraw 33 = .ok (.irem, 1) := by decide +kernel
theorem dX9_moveByDraw_34 : decode cX9_moveByDraw 34 = .ok (.istore_n 3, 1) := by decide +kernel
theorem dX9_moveByDraw_35 : decode cX9_moveByDraw 35 = .ok (.aload_n 0, 1) := by decide +kernel
theorem dX9_moveByDraw_36 : decode cX9_moveByDraw 36 = .ok (.getfield 9, 3) := by decide +kernel
theorem dX9_moveByDraw_39 : decode cX9_moveByDraw 39 = .ok (.iload_n 3, 1) := by decide +kernel
theorem dX9_moveByDraw_40 : decode cX9_moveByDraw 40 = .ok (.invokevirtual 50, 3) := by decide +kernel
theorem dX9_moveByDraw_43 : decode cX9_moveByDraw 43 = .ok (.ifCond .eq 19, 3) := by decide +kernel
theorem dX9_moveByDraw_46 : decode cX9_moveByDraw 46 = .ok (.aload_n 0, 1) := by decide +kernel
theorem dX9_moveByDraw_47 : decode cX9_moveByDraw 47 = .ok (.getfield 28, 3) := by decide +kernel
theorem dX9_moveByDraw_50 : decode cX9_moveByDraw 50 = .ok (.getfield 54, 3) := by decide +kernel
theorem dX9_moveByDraw_53 : decode cX9_moveByDraw 53 = .ok (.iload_n 3, 1) := by decide +kernel
theorem dX9_moveByDraw_54 : decode cX9_moveByDraw 54 = .ok (.iload_n 1, 1) := by decide +kernel
theorem dX9_moveByDraw_55 : decode cX9_moveByDraw 55 = .ok (.bipush 16, 2) := by decide +kernel
theorem dX9_moveByDraw_57 : decode cX9_moveByDraw 57 = .ok (.iushr, 1) := by decide +kernel
theorem dX9_moveByDraw_58 : decode cX9_moveByDraw 58 = .ok (.bipush 12, 2) := by decide +kernel
theorem dX9_moveByDraw_60 : decode cX9_moveByDraw 60 = .ok (.irem, 1) := by decide +kernel
theorem dX9_moveByDraw_61 : decode cX9_moveByDraw 61 = .ok (.iastore, 1) := by decide +kernel
theorem dX9_moveByDraw_62 : decode cX9_moveByDraw 62 = .ok (.return_, 1) := by decide +kernel
theorem dX10_init_0 : decode cX10_init 0 = .ok (.aload_n 0, 1) := by decide +kernel
theorem dX10_init_1 : decode cX10_init 1 = .ok (.invokespecial 3, 3) := by decide +kernel
theorem dX10_init_4 : decode cX10_init 4 = .ok (.aload_n 0, 1) := by decide +kernel
theorem dX10_init_5 : decode cX10_init 5 = .ok (.bipush 7, 2) := by decide +kernel
theorem dX10_init_7 : decode cX10_init 7 = .ok (.newarray .int, 2) := by decide +kernel
theorem dX10_init_9 : decode cX10_init 9 = .ok (.putfield 9, 3) := by decide +kernel
theorem dX10_init_12 : decode cX10_init 12 = .ok (.aload_n 0, 1) := by decide +kernel
theorem dX10_init_13 : decode cX10_init 13 = .ok (.sipush 128, 3) := by decide +kernel
theorem dX10_init_16 : decode cX10_init 16 = .ok (.newarray .boolean, 2) := by decide +kernel
theorem dX10_init_18 : decode cX10_init 18 = .ok (.putfield 15, 3) := by decide +kernel
theorem dX10_init_21 : decode cX10_init 21 = .ok (.aload_n 0, 1) := by decide +kernel
theorem dX10_init_22 : decode cX10_init 22 = .ok (.aload_n 1, 1) := by decide +kernel
theorem dX10_init_23 : decode cX10_init 23 = .ok (.putfield 19, 3) := by decide +kernel
theorem dX10_init_26 : decode cX10_init 26 = .ok (.aload_n 0, 1) := by decide +kernel
theorem dX10_init_27 : decode cX10_init 27 = .ok (.aload_n 2, 1) := by decide +kernel
theorem dX10_init_28 : decode cX10_init 28 = .ok (.putfield 23, 3) := by decide +kernel
theorem dX10_init_31 : decode cX10_init 31 = .ok (.return_, 1) := by decide +kernel
theorem dX10_fewestToTurn_0 : decode cX10_fewestToTurn 0 = .ok (.iload_n 1, 1) := by decide +kernel
theorem dX10_fewestToTurn_1 : decode cX10_fewestToTurn 1 = .ok (.ifCond .ne 13, 3) := by decide +kernel
theorem dX10_fewestToTurn_4 : decode cX10_fewestToTurn 4 = .ok (.aload_n 0, 1) := by decide +kernel
theorem dX10_fewestToTurn_5 : decode cX10_fewestToTurn 5 = .ok (.getfield 23, 3) := by decide +kernel
theorem dX10_fewestToTurn_8 : decode cX10_fewestToTurn 8 = .ok (.invokevirtual 27, 3) := by decide +kernel
theorem dX10_fewestToTurn_11 : decode cX10_fewestToTurn 11 = .ok (.goto 11, 3) := by decide +kernel
theorem dX10_fewestToTurn_14 : decode cX10_fewestToTurn 14 = .ok (.aload_n 0, 1) := by decide +kernel
theorem dX10_fewestToTurn_15 : decode cX10_fewestToTurn 15 = .ok (.getfield 23, 3) := by decide +kernel
theorem dX10_fewestToTurn_18 : decode cX10_fewestToTurn 18 = .ok (.invokevirtual 27, 3) := by decide +kernel
theorem dX10_fewestToTurn_21 : decode cX10_fewestToTurn 21 = .ok (.ineg, 1) := by decide +kernel
theorem dX10_fewestToTurn_22 : decode cX10_fewestToTurn 22 = .ok (.istore_n 2, 1) := by decide +kernel
theorem dX10_fewestToTurn_23 : decode cX10_fewestToTurn 23 = .ok (.iconst 0, 1) := by decide +kernel
theorem dX10_fewestToTurn_24 : decode cX10_fewestToTurn 24 = .ok (.istore_n 3, 1) := by decide +kernel
theorem dX10_fewestToTurn_25 : decode cX10_fewestToTurn 25 = .ok (.iconst 0, 1) := by decide +kernel
theorem dX10_fewestToTurn_26 : decode cX10_fewestToTurn 26 = .ok (.istore 4, 2) := by decide +kernel
theorem dX10_fewestToTurn_28 : decode cX10_fewestToTurn 28 = .ok (.iload 4, 2) := by decide +kernel
theorem dX10_fewestToTurn_30 : decode cX10_fewestToTurn 30 = .ok (.aload_n 0, 1) := by decide +kernel
theorem dX10_fewestToTurn_31 : decode cX10_fewestToTurn 31 = .ok (.getfield 19, 3) := by decide +kernel
theorem dX10_fewestToTurn_34 : decode cX10_fewestToTurn 34 = .ok (.getfield 33, 3) := by decide +kernel
theorem dX10_fewestToTurn_37 : decode cX10_fewestToTurn 37 = .ok (.if_icmp .ge 28, 3) := by decide +kernel
theorem dX10_fewestToTurn_40 : decode cX10_fewestToTurn 40 = .ok (.aload_n 0, 1) := by decide +kernel
theorem dX10_fewestToTurn_41 : decode cX10_fewestToTurn 41 = .ok (.getfield 23, 3) := by decide +kernel
theorem dX10_fewestToTurn_44 : decode cX10_fewestToTurn 44 = .ok (.getfield 39, 3) := by decide +kernel
theorem dX10_fewestToTurn_47 : decode cX10_fewestToTurn 47 = .ok (.iload 4, 2) := by decide +kernel
theorem dX10_fewestToTurn_49 : decode cX10_fewestToTurn 49 = .ok (.iaload, 1) := by decide +kernel
theorem dX10_fewestToTurn_50 : decode cX10_fewestToTurn 50 = .ok (.iconst 2, 1) := by decide +kernel
theorem dX10_fewestToTurn_51 : decode cX10_fewestToTurn 51 = .ok (.irem, 1) := by decide +kernel
theorem dX10_fewestToTurn_52 : decode cX10_fewestToTurn 52 = .ok (.iload_n 1, 1) := by decide +kernel
theorem dX10_fewestToTurn_53 : decode cX10_fewestToTurn 53 = .ok (.if_icmp .eq 6, 3) := by decide +kernel
theorem dX10_fewestToTurn_56 : decode cX10_fewestToTurn 56 = .ok (.iinc 3 1, 3) := by decide +kernel
theorem dX10_fewestToTurn_59 : decode cX10_fewestToTurn 59 = .ok (.iinc 4 1, 3) := by decide +kernel
theorem dX10_fewestToTurn_62 : decode cX10_fewestToTurn 62 = .ok (.goto (-34), 3) := by decide +kernel
theorem dX10_fewestToTurn_65 : decode cX10_fewestToTurn 65 = .ok (.iconst 0, 1) := by decide +kernel
theorem dX10_fewestToTurn_66 : decode cX10_fewestToTurn 66 = .ok (.istore 4, 2) := by decide +kernel
theorem dX10_fewestToTurn_68 : decode cX10_fewestToTurn 68 = .ok (.iload 4, 2) := by decide +kernel
theorem dX10_fewestToTurn_70 : decode cX10_fewestToTurn 70 = .ok (.iload_n 3, 1) := by decide +kernel
theorem dX10_fewestToTurn_71 : decode cX10_fewestToTurn 71 = .ok (.if_icmp .gt 41, 3) := by decide +kernel
theorem dX10_fewestToTurn_74 : decode cX10_fewestToTurn 74 = .ok (.iload_n 2, 1) := by decide +kernel
theorem dX10_fewestToTurn_75 : decode cX10_fewestToTurn 75 = .ok (.iconst 2, 1) := by decide +kernel
theorem dX10_fewestToTurn_76 : decode cX10_fewestToTurn 76 = .ok (.iload 4, 2) := by decide +kernel
theorem dX10_fewestToTurn_78 : decode cX10_fewestToTurn 78 = .ok (.imul, 1) := by decide +kernel
theorem dX10_fewestToTurn_79 : decode cX10_fewestToTurn 79 = .ok (.iadd, 1) := by decide +kernel
theorem dX10_fewestToTurn_80 : decode cX10_fewestToTurn 80 = .ok (.istore 5, 2) := by decide +kernel
theorem dX10_fewestToTurn_82 : decode cX10_fewestToTurn 82 = .ok (.iload 5, 2) := by decide +kernel
theorem dX10_fewestToTurn_84 : decode cX10_fewestToTurn 84 = .ok (.ifCond .gt 19, 3) := by decide +kernel
theorem dX10_fewestToTurn_87 : decode cX10_fewestToTurn 87 = .ok (.iload 5, 2) := by decide +kernel
theorem dX10_fewestToTurn_89 : decode cX10_fewestToTurn 89 = .ok (.ifCond .ne 17, 3) := by decide +kernel
theorem dX10_fewestToTurn_92 : decode cX10_fewestToTurn 92 = .ok (.aload_n 0, 1) := by decide +kernel
theorem dX10_fewestToTurn_93 : decode cX10_fewestToTurn 93 = .ok (.getfield 23, 3) := by decide +kernel
theorem dX10_fewestToTurn_96 : decode cX10_fewestToTurn 96 = .ok (.getfield 42, 3) := by decide +kernel
theorem dX10_fewestToTurn_99 : decode cX10_fewestToTurn 99 = .ok (.iload_n 1, 1) := by decide +kernel
theorem dX10_fewestToTurn_100 : decode cX10_fewestToTurn 100 = .ok (.if_icmp .ne 6, 3) := by decide +kernel
theorem dX10_fewestToTurn_103 : decode cX10_fewestToTurn 103 = .ok (.iload 4, 2) := by decide +kernel
theorem dX10_fewestToTurn_105 : decode cX10_fewestToTurn 105 = .ok (.ireturn, 1) := by decide +kernel
theorem dX10_fewestToTurn_106 : decode cX10_fewestToTurn 106 = .ok (.iinc 4 1, 3) := by decide +kernel
theorem dX10_fewestToTurn_109 : decode cX10_fewestToTurn 109 = .ok (.goto (-41), 3) := by decide +kernel
theorem dX10_fewestToTurn_112 : decode cX10_fewestToTurn 112 = .ok (.bipush (-2), 2) := by decide +kernel
theorem dX10_fewestToTurn_114 : decode cX10_fewestToTurn 114 = .ok (.ireturn, 1) := by decide +kernel
theorem dX10_areAcross_0 : decode cX10_areAcross 0 = .ok (.aload_n 0, 1) := by decide +kernel
theorem dX10_areAcross_1 : decode cX10_areAcross 1 = .ok (.getfield 23, 3) := by decide +kernel
theorem dX10_areAcross_4 : decode cX10_areAcross 4 = .ok (.getfield 39, 3) := by decide +kernel
theorem dX10_areAcross_7 : decode cX10_areAcross 7 = .ok (.iload_n 1, 1) := by decide +kernel
theorem dX10_areAcross_8 : decode cX10_areAcross 8 = .ok (.iaload, 1) := by decide +kernel
theorem dX10_areAcross_9 : decode cX10_areAcross 9 = .ok (.iconst 2, 1) := by decide +kernel
theorem dX10_areAcross_10 : decode cX10_areAcross 10 = .ok (.irem, 1) := by decide +kernel
theorem dX10_areAcross_11 : decode cX10_areAcross 11 = .ok (.aload_n 0, 1) := by decide +kernel
theorem dX10_areAcross_12 : decode cX10_areAcross 12 = .ok (.getfield 23, 3) := by decide +kernel
theorem dX10_areAcross_15 : decode cX10_areAcross 15 = .ok (.getfield 39, 3) := by decide +kernel
theorem dX10_areAcross_18 : decode cX10_areAcross 18 = .ok (.iload_n 2, 1) := by decide +kernel
theorem dX10_areAcross_19 : decode cX10_areAcross 19 = .ok (.iaload, 1) := by decide +kernel
theorem dX10_areAcross_20 : decode cX10_areAcross 20 = .ok (.iconst 2, 1) := by decide +kernel
theorem dX10_areAcross_21 : decode cX10_areAcross 21 = .ok (.irem, 1) := by decide +kernel
theorem dX10_areAcross_22 : decode cX10_areAcross 22 = .ok (.if_icmp .eq 7, 3) := by decide +kernel
theorem dX10_areAcross_25 : decode cX10_areAcross 25 = .ok (.iconst 1, 1) := by decide +kernel
theorem dX10_areAcross_26 : decode cX10_areAcross 26 = .ok (.goto 4, 3) := by decide +kernel
theorem dX10_areAcross_29 : decode cX10_areAcross 29 = .ok (.iconst 0, 1) := by decide +kernel
theorem dX10_areAcross_30 : decode cX10_areAcross 30 = .ok (.ireturn, 1) := by decide +kernel
theorem dX10_nearestAcross_0 : decode cX10_nearestAcross 0 = .ok (.bipush 12, 2) := by decide +kernel
theorem dX10_nearestAcross_2 : decode cX10_nearestAcross 2 = .ok (.istore_n 2, 1) := by decide +kernel
theorem dX10_nearestAcross_3 : decode cX10_nearestAcross 3 = .ok (.iconst 0, 1) := by decide +kernel
theorem dX10_nearestAcross_4 : decode cX10_nearestAcross 4 = .ok (.istore_n 3, 1) := by decide +kernel
theorem dX10_nearestAcross_5 : decode cX10_nearestAcross 5 = .ok (.iload_n 3, 1) := by decide +kernel
theorem dX10_nearestAcross_6 : decode cX10_nearestAcross 6 = .ok (.aload_n 0, 1) := by decide +kernel
theorem dX10_nearestAcross_7 : decode cX10_nearestAcross 7 = .ok (.getfield 19, 3) := by decide +kernel
theorem dX10_nearestAcross_10 : decode cX10_nearestAcross 10 = .ok (.getfield 33, 3) := by decide +kernel
theorem dX10_nearestAcross_13 : decode cX10_nearestAcross 13 = .ok (.if_icmp .ge 44, 3) := by decide +kernel
theorem dX10_nearestAcross_16 : decode cX10_nearestAcross 16 = .ok (.aload_n 0, 1) := by decide +kernel
theorem dX10_nearestAcross_17 : decode cX10_nearestAcross 17 = .ok (.iload_n 1, 1) := by decide +kernel
theorem dX10_nearestAcross_18 : decode cX10_nearestAcross 18 = .ok (.iload_n 3, 1) := by decide +kernel
theorem dX10_nearestAcross_19 : decode cX10_nearestAcross 19 = .ok (.invokevirtual 45, 3) := by decide +kernel
theorem dX10_nearestAcross_22 : decode cX10_nearestAcross 22 = .ok (.ifCond .eq 29, 3) := by decide +kernel
theorem dX10_nearestAcross_25 : decode cX10_nearestAcross 25 = .ok (.iload_n 2, 1) := by decide +kernel
theorem dX10_nearestAcross_26 : decode cX10_nearestAcross 26 = .ok (.aload_n 0, 1) := by decide +kernel
theorem dX10_nearestAcross_27 : decode cX10_nearestAcross 27 = .ok (.getfield 23, 3) := by decide +kernel
theorem dX10_nearestAcross_30 : decode cX10_nearestAcross 30 = .ok (.getfield 39, 3) := by decide +kernel
theorem dX10_nearestAcross_33 : decode cX10_nearestAcross 33 = .ok (.iload_n 1, 1) := by decide +kernel
theorem dX10_nearestAcross_34 : decode cX10_nearestAcross 34 = .ok (.iaload, 1) := by decide +kernel
theorem dX10_nearestAcross_35 : decode cX10_nearestAcross 35 = .ok (.aload_n 0, 1) := by decide +kernel
theorem dX10_nearestAcross_36 : decode cX10_nearestAcross 36 = .ok (.getfield 23, 3) := by decide +kernel
theorem dX10_nearestAcross_39 : decode cX10_nearestAcross 39 = .ok (.getfield 39, 3) := by decide +kernel
theorem dX10_nearestAcross_42 : decode cX10_nearestAcross 42 = .ok (.iload_n 3, 1) := by decide +kernel
theorem dX10_nearestAcross_43 : decode cX10_nearestAcross 43 = .ok (.iaload, 1) := by decide +kernel
theorem dX10_nearestAcross_44 : decode cX10_nearestAcross 44 = .ok (.invokestatic 49, 3) := by decide +kernel
theorem dX10_nearestAcross_47 : decode cX10_nearestAcross 47 = .ok (.invokestatic 53, 3) := by decide +kernel
theorem dX10_nearestAcross_50 : decode cX10_nearestAcross 50 = .ok (.istore_n 2, 1) := by decide +kernel
theorem dX10_nearestAcross_51 : decode cX10_nearestAcross 51 = .ok (.iinc 3 1, 3) := by decide +kernel
theorem dX10_nearestAcross_54 : decode cX10_nearestAcross 54 = .ok (.goto (-49), 3) := by decide +kernel
theorem dX10_nearestAcross_57 : decode cX10_nearestAcross 57 = .ok (.iload_n 2, 1) := by decide +kernel
theorem dX10_nearestAcross_58 : decode cX10_nearestAcross 58 = .ok (.bipush 12, 2) := by decide +kernel
theorem dX10_nearestAcross_60 : decode cX10_nearestAcross 60 = .ok (.if_icmp .ge 7, 3) := by decide +kernel
theorem dX10_nearestAcross_63 : decode cX10_nearestAcross 63 = .ok (.iload_n 2, 1) := by decide +kernel
theorem dX10_nearestAcross_64 : decode cX10_nearestAcross 64 = .ok (.goto 5, 3) := by decide +kernel
theorem dX10_nearestAcross_67 : decode cX10_nearestAcross 67 = .ok (.bipush (-2), 2) := by decide +kernel
theorem dX10_nearestAcross_69 : decode cX10_nearestAcross 69 = .ok (.ireturn, 1) := by decide +kernel
theorem dX10_mostPairs_0 : decode cX10_mostPairs 0 = .ok (.iconst 0, 1) := by decide +kernel
theorem dX10_mostPairs_1 : decode cX10_mostPairs 1 = .ok (.istore_n 2, 1) := by decide +kernel
theorem dX10_mostPairs_2 : decode cX10_mostPairs 2 = .ok (.iload_n 2, 1) := by decide +kernel
theorem dX10_mostPairs_3 : decode cX10_mostPairs 3 = .ok (.aload_n 0, 1) := by decide +kernel
theorem dX10_mostPairs_4 : decode cX10_mostPairs 4 = .ok (.getfield 15, 3) := by decide +kernel
theorem dX10_mostPairs_7 : decode cX10_mostPairs 7 = .ok (.arraylength, 1) := by decide +kernel
theorem dX10_mostPairs_8 : decode cX10_mostPairs 8 = .ok (.if_icmp .ge 24, 3) := by decide +kernel
theorem dX10_mostPairs_11 : decode cX10_mostPairs 11 = .ok (.aload_n 0, 1) := by decide +kernel
theorem dX10_mostPairs_12 : decode cX10_mostPairs 12 = .ok (.getfield 15, 3) := by decide +kernel
theorem dX10_mostPairs_15 : decode cX10_mostPairs 15 = .ok (.iload_n 2, 1) := by decide +kernel
theorem dX10_mostPairs_16 : decode cX10_mostPairs 16 = .ok (.iload_n 2, 1) := by decide +kernel
theorem dX10_mostPairs_17 : decode cX10_mostPairs 17 = .ok (.ifCond .ne 7, 3) := by decide +kernel
theorem dX10_mostPairs_20 : decode cX10_mostPairs 20 = .ok (.iconst 1, 1) := by decide +kernel
theorem dX10_mostPairs_21 : decode cX10_mostPairs 21 = .ok (.goto 4, 3) := by decide +kernel
theorem dX10_mostPairs_24 : decode cX10_mostPairs 24 = .ok (.iconst 0, 1) := by decide +kernel
theorem dX10_mostPairs_25 : decode cX10_mostPairs 25 = .ok (.bastore, 1) := by decide +kernel
theorem dX10_mostPairs_26 : decode cX10_mostPairs 26 = .ok (.iinc 2 1, 3) := by decide +kernel
theorem dX10_mostPairs_29 : decode cX10_mostPairs 29 = .ok (.goto (-27), 3) := by decide +kernel
theorem dX10_mostPairs_32 : decode cX10_mostPairs 32 = .ok (.iconst 0, 1) := by decide +kernel
theorem dX10_mostPairs_33 : decode cX10_mostPairs 33 = .ok (.istore_n 2, 1) := by decide +kernel
theorem dX10_mostPairs_34 : decode cX10_mostPairs 34 = .ok (.iload_n 2, 1) := by decide +kernel
theorem dX10_mostPairs_35 : decode cX10_mostPairs 35 = .ok (.aload_n 0, 1) := by decide +kernel
theorem dX10_mostPairs_36 : decode cX10_mostPairs 36 = .ok (.getfield 19, 3) := by decide +kernel
theorem dX10_mostPairs_39 : decode cX10_mostPairs 39 = .ok (.getfield 33, 3) := by decide +kernel
theorem dX10_mostPairs_42 : decode cX10_mostPairs 42 = .ok (.if_icmp .ge 29, 3) := by decide +kernel
theorem dX10_mostPairs_45 : decode cX10_mostPairs 45 = .ok (.aload_n 0, 1) := by decide +kernel
theorem dX10_mostPairs_46 : decode cX10_mostPairs 46 = .ok (.getfield 23, 3) := by decide +kernel
theorem dX10_mostPairs_49 : decode cX10_mostPairs 49 = .ok (.getfield 39, 3) := by decide +kernel
theorem dX10_mostPairs_52 : decode cX10_mostPairs 52 = .ok (.iload_n 2, 1) := by decide +kernel
theorem dX10_mostPairs_53 : decode cX10_mostPairs 53 = .ok (.iaload, 1) := by decide +kernel
theorem dX10_mostPairs_54 : decode cX10_mostPairs 54 = .ok (.iconst 2, 1) := by decide +kernel
theorem dX10_mostPairs_55 : decode cX10_mostPairs 55 = .ok (.irem, 1) := by decide +kernel
theorem dX10_mostPairs_56 : decode cX10_mostPairs 56 = .ok (.ifCond .ne 9, 3) := by decide +kernel
theorem dX10_mostPairs_59 : decode cX10_mostPairs 59 = .ok (.aload_n 0, 1) := by decide +kernel
theorem dX10_mostPairs_60 : decode cX10_mostPairs 60 = .ok (.iload_n 2, 1) := by decide +kernel
theorem dX10_mostPairs_61 : decode cX10_mostPairs 61 = .ok (.iload_n 1, 1) := by decide +kernel
theorem dX10_mostPairs_62 : decode cX10_mostPairs 62 = .ok (.invokevirtual 58, 3) := by decide +kernel
theorem dX10_mostPairs_65 : decode cX10_mostPairs 65 = .ok (.iinc 2 1, 3) := by decide +kernel
theorem dX10_mostPairs_68 : decode cX10_mostPairs 68 = .ok (.goto (-34), 3) := by decide +kernel
theorem dX10_mostPairs_71 : decode cX10_mostPairs 71 = .ok (.iconst 0, 1) := by decide +kernel
theorem dX10_mostPairs_72 : decode cX10_mostPairs 72 = .ok (.istore_n 2, 1) := by decide +kernel
theorem dX10_mostPairs_73 : decode cX10_mostPairs 73 = .ok (.iconst 0, 1) := by decide +kernel
theorem dX10_mostPairs_74 : decode cX10_mostPairs 74 = .ok (.istore_n 3, 1) := by decide +kernel
theorem dX10_mostPairs_75 : decode cX10_mostPairs 75 = .ok (.iload_n 3, 1) := by decide +kernel
theorem dX10_mostPairs_76 : decode cX10_mostPairs 76 = .ok (.aload_n 0, 1) := by decide +kernel
theorem dX10_mostPairs_77 : decode cX10_mostPairs 77 = .ok (.getfield 15, 3) := by decide +kernel
theorem dX10_mostPairs_80 : decode cX10_mostPairs 80 = .ok (.arraylength, 1) := by decide +kernel
theorem dX10_mostPairs_81 : decode cX10_mostPairs 81 = .ok (.if_icmp .ge 27, 3) := by decide +kernel
theorem dX10_mostPairs_84 : decode cX10_mostPairs 84 = .ok (.aload_n 0, 1) := by decide +kernel
theorem dX10_mostPairs_85 : decode cX10_mostPairs 85 = .ok (.getfield 15, 3) := by decide +kernel
theorem dX10_mostPairs_88 : decode cX10_mostPairs 88 = .ok (.iload_n 3, 1) := by decide +kernel
theorem dX10_mostPairs_89 : decode cX10_mostPairs 89 = .ok (.baload, 1) := by decide +kernel
theorem dX10_mostPairs_90 : decode cX10_mostPairs 90 = .ok (.ifCond .eq 12, 3) := by decide +kernel
theorem dX10_mostPairs_93 : decode cX10_mostPairs 93 = .ok (.iload_n 2, 1) := by decide +kernel
theorem dX10_mostPairs_94 : decode cX10_mostPairs 94 = .ok (.iload_n 3, 1) := by decide +kernel
theorem dX10_mostPairs_95 : decode cX10_mostPairs 95 = .ok (.invokestatic 62, 3) := by decide +kernel
theorem dX10_mostPairs_98 : decode cX10_mostPairs 98 = .ok (.invokestatic 68, 3) := by decide +kernel
theorem dX10_mostPairs_101 : decode cX10_mostPairs 101 = .ok (.istore_n 2, 1) := by decide +kernel
theorem dX10_mostPairs_102 : decode cX10_mostPairs 102 = .ok (.iinc 3 1, 3) := by decide +kernel
theorem dX10_mostPairs_105 : decode cX10_mostPairs 105 = .ok (.goto (-30), 3) := by decide +kernel
theorem dX10_mostPairs_108 : decode cX10_mostPairs 108 = .ok (.iload_n 2, 1) := by decide +kernel
theorem dX10_mostPairs_109 : decode cX10_mostPairs 109 = .ok (.ireturn, 1) := by decide +kernel
theorem dX10_pairOff_0 : decode cX10_pairOff 0 = .ok (.aload_n 0, 1) := by decide +kernel
theorem dX10_pairOff_1 : decode cX10_pairOff 1 = .ok (.getfield 15, 3) := by decide +kernel
theorem dX10_pairOff_4 : decode cX10_pairOff 4 = .ok (.arraylength, 1) := by decide +kernel
theorem dX10_pairOff_5 : decode cX10_pairOff 5 = .ok (.iconst 1, 1) := by decide +kernel
theorem dX10_pairOff_6 : decode cX10_pairOff 6 = .ok (.isub, 1) := by decide +kernel
theorem dX10_pairOff_7 : decode cX10_pairOff 7 = .ok (.istore_n 3, 1) := by decide +kernel
theorem dX10_pairOff_8 : decode cX10_pairOff 8 = .ok (.iload_n 3, 1) := by decide +kernel
theorem dX10_pairOff_9 : decode cX10_pairOff 9 = .ok (.ifCond .lt 113, 3) := by decide +kernel
theorem dX10_pairOff_12 : decode cX10_pairOff 12 = .ok (.iconst 0, 1) := by decide +kernel
theorem dX10_pairOff_13 : decode cX10_pairOff 13 = .ok (.istore 4, 2) := by decide +kernel
theorem dX10_pairOff_15 : decode cX10_pairOff 15 = .ok (.aload_n 0, 1) := by decide +kernel
theorem dX10_pairOff_16 : decode cX10_pairOff 16 = .ok (.getfield 15, 3) := by decide +kernel
theorem dX10_pairOff_19 : decode cX10_pairOff 19 = .ok (.iload_n 3, 1) := by decide +kernel
theorem dX10_pairOff_20 : decode cX10_pairOff 20 = .ok (.baload, 1) := by decide +kernel
theorem dX10_pairOff_21 : decode cX10_pairOff 21 = .ok (.ifCond .eq 95, 3) := by decide +kernel
theorem dX10_pairOff_24 : decode cX10_pairOff 24 = .ok (.iload 4, 2) := by decide +kernel
theorem dX10_pairOff_26 : decode cX10_pairOff 26 = .ok (.aload_n 0, 1) := by decide +kernel
theorem dX10_pairOff_27 : decode cX10_pairOff 27 = .ok (.getfield 19, 3) := by decide +kernel
theorem dX10_pairOff_30 : decode cX10_pairOff 30 = .ok (.getfield 33, 3) := by decide +kernel
theorem dX10_pairOff_33 : decode cX10_pairOff 33 = .ok (.if_icmp .ge 83, 3) := by decide +kernel
theorem dX10_pairOff_36 : decode cX10_pairOff 36 = .ok (.aload_n 0, 1) := by decide +kernel
theorem dX10_pairOff_37 : decode cX10_pairOff 37 = .ok (.iload_n 1, 1) := by decide +kernel
theorem dX10_pairOff_38 : decode cX10_pairOff 38 = .ok (.iload 4, 2) := by decide +kernel
theorem dX10_pairOff_40 : decode cX10_pairOff 40 = .ok (.invokevirtual 45, 3) := by decide +kernel
theorem dX10_pairOff_43 : decode cX10_pairOff 43 = .ok (.ifCond .eq 33, 3) := by decide +kernel
theorem dX10_pairOff_46 : decode cX10_pairOff 46 = .ok (.aload_n 0, 1) := by decide +kernel
theorem dX10_pairOff_47 : decode cX10_pairOff 47 = .ok (.getfield 23, 3) := by decide +kernel
theorem dX10_pairOff_50 : decode cX10_pairOff 50 = .ok (.getfield 39, 3) := by decide +kernel
theorem dX10_pairOff_53 : decode cX10_pairOff 53 = .ok (.iload_n 1, 1) := by decide +kernel
theorem dX10_pairOff_54 : decode cX10_pairOff 54 = .ok (.iaload, 1) := by decide +kernel
theorem dX10_pairOff_55 : decode cX10_pairOff 55 = .ok (.aload_n 0, 1) := by decide +kernel
theorem dX10_pairOff_56 : decode cX10_pairOff 56 = .ok (.getfield 23, 3) := by decide +kernel
theorem dX10_pairOff_59 : decode cX10_pairOff 59 = .ok (.getfield 39, 3) := by decide +kernel
theorem dX10_pairOff_62 : decode cX10_pairOff 62 = .ok (.iload 4, 2) := by decide +kernel
theorem dX10_pairOff_64 : decode cX10_pairOff 64 = .ok (.iaload, 1) := by decide +kernel
theorem dX10_pairOff_65 : decode cX10_pairOff 65 = .ok (.invokestatic 49, 3) := by decide +kernel
theorem dX10_pairOff_68 : decode cX10_pairOff 68 = .ok (.iload_n 2, 1) := by decide +kernel
theorem dX10_pairOff_69 : decode cX10_pairOff 69 = .ok (.if_icmp .gt 7, 3) := by decide +kernel
theorem dX10_pairOff_72 : decode cX10_pairOff 72 = .ok (.iconst 1, 1) := by decide +kernel
theorem dX10_pairOff_73 : decode cX10_pairOff 73 = .ok (.goto 4, 3) := by decide +kernel
theorem dX10_pairOff_76 : decode cX10_pairOff 76 = .ok (.iconst 0, 1) := by decide +kernel
theorem dX10_pairOff_77 : decode cX10_pairOff 77 = .ok (.istore 5, 2) := by decide +kernel
theorem dX10_pairOff_79 : decode cX10_pairOff 79 = .ok (.iload_n 3, 1) := by decide +kernel
theorem dX10_pairOff_80 : decode cX10_pairOff 80 = .ok (.iconst 1, 1) := by decide +kernel
theorem dX10_pairOff_81 : decode cX10_pairOff 81 = .ok (.iload 4, 2) := by decide +kernel
theorem dX10_pairOff_83 : decode cX10_pairOff 83 = .ok (.ishl, 1) := by decide +kernel
theorem dX10_pairOff_84 : decode cX10_pairOff 84 = .ok (.ior, 1) := by decide +kernel
theorem dX10_pairOff_85 : decode cX10_pairOff 85 = .ok (.istore 6, 2) := by decide +kernel
theorem dX10_pairOff_87 : decode cX10_pairOff 87 = .ok (.iload 5, 2) := by decide +kernel
theorem dX10_pairOff_89 : decode cX10_pairOff 89 = .ok (.ifCond .eq 21, 3) := by decide +kernel
theorem dX10_pairOff_92 : decode cX10_pairOff 92 = .ok (.iload 6, 2) := by decide +kernel
theorem dX10_pairOff_94 : decode cX10_pairOff 94 = .ok (.aload_n 0, 1) := by decide +kernel
theorem dX10_pairOff_95 : decode cX10_pairOff 95 = .ok (.getfield 15, 3) := by decide +kernel
theorem dX10_pairOff_98 : decode cX10_pairOff 98 = .ok (.arraylength, 1) := by decide +kernel
theorem dX10_pairOff_99 : decode cX10_pairOff 99 = .ok (.if_icmp .ge 11, 3) := by decide +kernel
theorem dX10_pairOff_102 : decode cX10_pairOff 102 = .ok (.aload_n 0, 1) := by decide +kernel
theorem dX10_pairOff_103 : decode cX10_pairOff 103 = .ok (.getfield 15, 3) := by decide +kernel
theorem dX10_pairOff_106 : decode cX10_pairOff 106 = .ok (.iload 6, 2) := by decide +kernel
theorem dX10_pairOff_108 : decode cX10_pairOff 108 = .ok (.iconst 1, 1) := by decide +kernel
theorem dX10_pairOff_109 : decode cX10_pairOff 109 = .ok (.bastore, 1) := by decide +kernel
theorem dX10_pairOff_110 : decode cX10_pairOff 110 = .ok (.iinc 4 1, 3) := by decide +kernel
theorem dX10_pairOff_113 : decode cX10_pairOff 113 = .ok (.goto (-98), 3) := by decide +kernel
theorem dX10_pairOff_116 : decode cX10_pairOff 116 = .ok (.iinc 3 (-1), 3) := by decide +kernel
theorem dX10_pairOff_119 : decode cX10_pairOff 119 = .ok (.goto (-111), 3) := by decide +kernel
theorem dX10_pairOff_122 : decode cX10_pairOff 122 = .ok (.return_, 1) := by decide +kernel
theorem dX10_playTurns_0 : decode cX10_playTurns 0 = .ok (.iconst 0, 1) := by decide +kernel
theorem dX10_playTurns_1 : decode cX10_playTurns 1 = .ok (.istore_n 2, 1) := by decide +kernel
theorem dX10_playTurns_2 : decode cX10_playTurns 2 = .ok (.iload_n 2, 1) := by decide +kernel
theorem dX10_playTurns_3 : decode cX10_playTurns 3 = .ok (.aload_n 0, 1) := by decide +kernel
theorem dX10_playTurns_4 : decode cX10_playTurns 4 = .ok (.getfield 19, 3) := by decide +kernel
theorem dX10_playTurns_7 : decode cX10_playTurns 7 = .ok (.getfield 33, 3) := by decide +kernel
theorem dX10_playTurns_10 : decode cX10_playTurns 10 = .ok (.if_icmp .ge 26, 3) := by decide +kernel
theorem dX10_playTurns_13 : decode cX10_playTurns 13 = .ok (.aload_n 0, 1) := by decide +kernel
theorem dX10_playTurns_14 : decode cX10_playTurns 14 = .ok (.getfield 9, 3) := by decide +kernel
theorem dX10_playTurns_17 : decode cX10_playTurns 17 = .ok (.iload_n 2, 1) := by decide +kernel
theorem dX10_playTurns_18 : decode cX10_playTurns 18 = .ok (.aload_n 0, 1) := by decide +kernel
theorem dX10_playTurns_19 : decode cX10_playTurns 19 = .ok (.getfield 23, 3) := by decide +kernel
theorem dX10_playTurns_22 : decode cX10_playTurns 22 = .ok (.getfield 39, 3) := by decide +kernel
theorem dX10_playTurns_25 : decode cX10_playTurns 25 = .ok (.iload_n 2, 1) := by decide +kernel
theorem dX10_playTurns_26 : decode cX10_playTurns 26 = .ok (.iaload, 1) := by decide +kernel
theorem dX10_playTurns_27 : decode cX10_playTurns 27 = .ok (.iconst 2, 1) := by decide +kernel
theorem dX10_playTurns_28 : decode cX10_playTurns 28 = .ok (.irem, 1) := by decide +kernel
theorem dX10_playTurns_29 : decode cX10_playTurns 29 = .ok (.iastore, 1) := by decide +kernel
theorem dX10_playTurns_30 : decode cX10_playTurns 30 = .ok (.iinc 2 1, 3) := by decide +kernel
theorem dX10_playTurns_33 : decode cX10_playTurns 33 = .ok (.goto (-31), 3) := by decide +kernel
theorem dX10_playTurns_36 : decode cX10_playTurns 36 = .ok (.aload_n 0, 1) := by decide +kernel
theorem dX10_playTurns_37 : decode cX10_playTurns 37 = .ok (.getfield 23, 3) := by decide +kernel
theorem dX10_playTurns_40 : decode cX10_playTurns 40 = .ok (.invokevirtual 27, 3) := by decide +kernel
theorem dX10_playTurns_43 : decode cX10_playTurns 43 = .ok (.istore_n 2, 1) := by decide +kernel
theorem dX10_playTurns_44 : decode cX10_playTurns 44 = .ok (.aload_n 0, 1) := by decide +kernel
theorem dX10_playTurns_45 : decode cX10_playTurns 45 = .ok (.aload_n 0, 1) := by decide +kernel
theorem dX10_playTurns_46 : decode cX10_playTurns 46 = .ok (.iload_n 1, 1) := by decide +kernel
theorem dX10_playTurns_47 : decode cX10_playTurns 47 = .ok (.iconst 1, 1) := by decide +kernel
theorem dX10_playTurns_48 : decode cX10_playTurns 48 = .ok (.isub, 1) := by decide +kernel
theorem dX10_playTurns_49 : decode cX10_playTurns 49 = .ok (.iconst 0, 1) := by decide +kernel
theorem dX10_playTurns_50 : decode cX10_playTurns 50 = .ok (.iload_n 2, 1) := by decide +kernel
theorem dX10_playTurns_51 : decode cX10_playTurns 51 = .ok (.invokevirtual 71, 3) := by decide +kernel
theorem dX10_playTurns_54 : decode cX10_playTurns 54 = .ok (.putfield 75, 3) := by decide +kernel
theorem dX10_playTurns_57 : decode cX10_playTurns 57 = .ok (.aload_n 0, 1) := by decide +kernel
theorem dX10_playTurns_58 : decode cX10_playTurns 58 = .ok (.bipush 9, 2) := by decide +kernel
theorem dX10_playTurns_60 : decode cX10_playTurns 60 = .ok (.putfield 78, 3) := by decide +kernel
theorem dX10_playTurns_63 : decode cX10_playTurns 63 = .ok (.iconst 0, 1) := by decide +kernel
theorem dX10_playTurns_64 : decode cX10_playTurns 64 = .ok (.istore_n 3, 1) := by decide +kernel
theorem dX10_playTurns_65 : decode cX10_playTurns 65 = .ok (.iload_n 3, 1) := by decide +kernel
theorem dX10_playTurns_66 : decode cX10_playTurns 66 = .ok (.aload_n 0, 1) := by decide +kernel
theorem dX10_playTurns_67 : decode cX10_playTurns 67 = .ok (.getfield 19, 3) := by decide +kernel
theorem dX10_playTurns_70 : decode cX10_playTurns 70 = .ok (.getfield 33, 3) := by decide +kernel
theorem dX10_playTurns_73 : decode cX10_playTurns 73 = .ok (.if_icmp .ge 41, 3) := by decide +kernel
theorem dX10_playTurns_76 : decode cX10_playTurns 76 = .ok (.aload_n 0, 1) := by decide +kernel
theorem dX10_playTurns_77 : decode cX10_playTurns 77 = .ok (.iload_n 3, 1) := by decide +kernel
theorem dX10_playTurns_78 : decode cX10_playTurns 78 = .ok (.iload_n 1, 1) := by decide +kernel
theorem dX10_playTurns_79 : decode cX10_playTurns 79 = .ok (.iconst 1, 1) := by decide +kernel
theorem dX10_playTurns_80 : decode cX10_playTurns 80 = .ok (.isub, 1) := by decide +kernel
theorem dX10_playTurns_81 : decode cX10_playTurns 81 = .ok (.iconst 0, 1) := by decide +kernel
theorem dX10_playTurns_82 : decode cX10_playTurns 82 = .ok (.iload_n 2, 1) := by decide +kernel
theorem dX10_playTurns_83 : decode cX10_playTurns 83 = .ok (.invokevirtual 81, 3) := by decide +kernel
theorem dX10_playTurns_86 : decode cX10_playTurns 86 = .ok (.istore 4, 2) := by decide +kernel
theorem dX10_playTurns_88 : decode cX10_playTurns 88 = .ok (.iload 4, 2) := by decide +kernel
theorem dX10_playTurns_90 : decode cX10_playTurns 90 = .ok (.aload_n 0, 1) := by decide +kernel
theorem dX10_playTurns_91 : decode cX10_playTurns 91 = .ok (.getfield 75, 3) := by decide +kernel
theorem dX10_playTurns_94 : decode cX10_playTurns 94 = .ok (.if_icmp .le 14, 3) := by decide +kernel
theorem dX10_playTurns_97 : decode cX10_playTurns 97 = .ok (.aload_n 0, 1) := by decide +kernel
theorem dX10_playTurns_98 : decode cX10_playTurns 98 = .ok (.iload 4, 2) := by decide +kernel
theorem dX10_playTurns_100 : decode cX10_playTurns 100 = .ok (.putfield 75, 3) := by decide +kernel
theorem dX10_playTurns_103 : decode cX10_playTurns 103 = .ok (.aload_n 0, 1) := by decide +kernel
theorem dX10_playTurns_104 : decode cX10_playTurns 104 = .ok (.iload_n 3, 1) := by decide +kernel
theorem dX10_playTurns_105 : decode cX10_playTurns 105 = .ok (.putfield 78, 3) := by decide +kernel
theorem dX10_playTurns_108 : decode cX10_playTurns 108 = .ok (.iinc 3 1, 3) := by decide +kernel
theorem dX10_playTurns_111 : decode cX10_playTurns 111 = .ok (.goto (-46), 3) := by decide +kernel
theorem dX10_playTurns_114 : decode cX10_playTurns 114 = .ok (.return_, 1) := by decide +kernel
theorem dX10_bestLead_0 : decode cX10_bestLead 0 = .ok (.iload_n 1, 1) := by decide +kernel
theorem dX10_bestLead_1 : decode cX10_bestLead 1 = .ok (.ifCond .gt 5, 3) := by decide +kernel
theorem dX10_bestLead_4 : decode cX10_bestLead 4 = .ok (.iload_n 3, 1) := by decide +kernel
theorem dX10_bestLead_5 : decode cX10_bestLead 5 = .ok (.ireturn, 1) := by decide +kernel
theorem dX10_bestLead_6 : decode cX10_bestLead 6 = .ok (.aload_n 0, 1) := by decide +kernel
theorem dX10_bestLead_7 : decode cX10_bestLead 7 = .ok (.iload_n 1, 1) := by decide +kernel
theorem dX10_bestLead_8 : decode cX10_bestLead 8 = .ok (.iconst 1, 1) := by decide +kernel
theorem dX10_bestLead_9 : decode cX10_bestLead 9 = .ok (.isub, 1) := by decide +kernel
theorem dX10_bestLead_10 : decode cX10_bestLead 10 = .ok (.iload_n 2, 1) := by decide +kernel
theorem dX10_bestLead_11 : decode cX10_bestLead 11 = .ok (.ifCond .ne 7, 3) := by decide +kernel
theorem dX10_bestLead_14 : decode cX10_bestLead 14 = .ok (.iconst 1, 1) := by decide +kernel
theorem dX10_bestLead_15 : decode cX10_bestLead 15 = .ok (.goto 4, 3) := by decide +kernel
theorem dX10_bestLead_18 : decode cX10_bestLead 18 = .ok (.iconst 0, 1) := by decide +kernel
theorem dX10_bestLead_19 : decode cX10_bestLead 19 = .ok (.iload_n 3, 1) := by decide +kernel
theorem dX10_bestLead_20 : decode cX10_bestLead 20 = .ok (.invokevirtual 71, 3) := by decide +kernel
theorem dX10_bestLead_23 : decode cX10_bestLead 23 = .ok (.istore 4, 2) := by decide +kernel
theorem dX10_bestLead_25 : decode cX10_bestLead 25 = .ok (.iconst 0, 1) := by decide +kernel
theorem dX10_bestLead_26 : decode cX10_bestLead 26 = .ok (.istore 5, 2) := by decide +kernel
theorem dX10_bestLead_28 : decode cX10_bestLead 28 = .ok (.iload 5, 2) := by decide +kernel
theorem dX10_bestLead_30 : decode cX10_bestLead 30 = .ok (.aload_n 0, 1) := by decide +kernel
theorem dX10_bestLead_31 : decode cX10_bestLead 31 = .ok (.getfield 19, 3) := by decide +kernel
theorem dX10_bestLead_34 : decode cX10_bestLead 34 = .ok (.getfield 33, 3) := by decide +kernel
theorem dX10_bestLead_37 : decode cX10_bestLead 37 = .ok (.if_icmp .ge 53, 3) := by decide +kernel
theorem dX10_bestLead_40 : decode cX10_bestLead 40 = .ok (.aload_n 0, 1) := by decide +kernel
theorem dX10_bestLead_41 : decode cX10_bestLead 41 = .ok (.iload 5, 2) := by decide +kernel
theorem dX10_bestLead_43 : decode cX10_bestLead 43 = .ok (.iload_n 1, 1) := by decide +kernel
theorem dX10_bestLead_44 : decode cX10_bestLead 44 = .ok (.iconst 1, 1) := by decide +kernel
theorem dX10_bestLead_45 : decode cX10_bestLead 45 = .ok (.isub, 1) := by decide +kernel
theorem dX10_bestLead_46 : decode cX10_bestLead 46 = .ok (.iload_n 2, 1) := by decide +kernel
theorem dX10_bestLead_47 : decode cX10_bestLead 47 = .ok (.ifCond .ne 7, 3) := by decide +kernel
theorem dX10_bestLead_50 : decode cX10_bestLead 50 = .ok (.iconst 1, 1) := by decide +kernel
theorem dX10_bestLead_51 : decode cX10_bestLead 51 = .ok (.goto 4, 3) := by decide +kernel
theorem dX10_bestLead_54 : decode cX10_bestLead 54 = .ok (.iconst 0, 1) := by decide +kernel
theorem dX10_bestLead_55 : decode cX10_bestLead 55 = .ok (.iload_n 3, 1) := by decide +kernel
theorem dX10_bestLead_56 : decode cX10_bestLead 56 = .ok (.invokevirtual 81, 3) := by decide +kernel
theorem dX10_bestLead_59 : decode cX10_bestLead 59 = .ok (.istore 6, 2) := by decide +kernel
theorem dX10_bestLead_61 : decode cX10_bestLead 61 = .ok (.iload_n 2, 1) := by decide +kernel
theorem dX10_bestLead_62 : decode cX10_bestLead 62 = .ok (.ifCond .eq 13, 3) := by decide +kernel
theorem dX10_bestLead_65 : decode cX10_bestLead 65 = .ok (.iload 4, 2) := by decide +kernel
theorem dX10_bestLead_67 : decode cX10_bestLead 67 = .ok (.iload 6, 2) := by decide +kernel
theorem dX10_bestLead_69 : decode cX10_bestLead 69 = .ok (.invokestatic 68, 3) := by decide +kernel
theorem dX10_bestLead_72 : decode cX10_bestLead 72 = .ok (.goto 10, 3) := by decide +kernel
theorem dX10_bestLead_75 : decode cX10_bestLead 75 = .ok (.iload 4, 2) := by decide +kernel
theorem dX10_bestLead_77 : decode cX10_bestLead 77 = .ok (.iload 6, 2) := by decide +kernel
theorem dX10_bestLead_79 : decode cX10_bestLead 79 = .ok (.invokestatic 53, 3) := by decide +kernel
theorem dX10_bestLead_82 : decode cX10_bestLead 82 = .ok (.istore 4, 2) := by decide +kernel
theorem dX10_bestLead_84 : decode cX10_bestLead 84 = .ok (.iinc 5 1, 3) := by decide +kernel
theorem dX10_bestLead_87 : decode cX10_bestLead 87 = .ok (.goto (-59), 3) := by decide +kernel
theorem dX10_bestLead_90 : decode cX10_bestLead 90 = .ok (.iload 4, 2) := by decide +kernel
theorem dX10_bestLead_92 : decode cX10_bestLead 92 = .ok (.ireturn, 1) := by decide +kernel
theorem dX10_leadIfMoved_0 : decode cX10_leadIfMoved 0 = .ok (.iload 4, 2) := by decide +kernel
theorem dX10_leadIfMoved_2 : decode cX10_leadIfMoved 2 = .ok (.aload_n 0, 1) := by decide +kernel
theorem dX10_leadIfMoved_3 : decode cX10_leadIfMoved 3 = .ok (.getfield 9, 3) := by decide +kernel
theorem dX10_leadIfMoved_6 : decode cX10_leadIfMoved 6 = .ok (.iload_n 1, 1) := by decide +kernel
theorem dX10_leadIfMoved_7 : decode cX10_leadIfMoved 7 = .ok (.iaload, 1) := by decide +kernel
theorem dX10_leadIfMoved_8 : decode cX10_leadIfMoved 8 = .ok (.ifCond .ne 8, 3) := by decide +kernel
theorem dX10_leadIfMoved_11 : decode cX10_leadIfMoved 11 = .ok (.bipush (-2), 2) := by decide +kernel
theorem dX10_leadIfMoved_13 : decode cX10_leadIfMoved 13 = .ok (.goto 4, 3) := by decide +kernel
theorem dX10_leadIfMoved_16 : decode cX10_leadIfMoved 16 = .ok (.iconst 2, 1) := by decide +kernel
theorem dX10_leadIfMoved_17 : decode cX10_leadIfMoved 17 = .ok (.iadd, 1) := by decide +kernel
theorem dX10_leadIfMoved_18 : decode cX10_leadIfMoved 18 = .ok (.istore 5, 2) := by decide +kernel
theorem dX10_leadIfMoved_20 : decode cX10_leadIfMoved 20 = .ok (.aload_n 0, 1) := by decide +kernel
theorem dX10_leadIfMoved_21 : decode cX10_leadIfMoved 21 = .ok (.getfield 9, 3) := by decide +kernel
theorem dX10_leadIfMoved_24 : decode cX10_leadIfMoved 24 = .ok (.iload_n 1, 1) := by decide +kernel
theorem dX10_leadIfMoved_25 : decode cX10_leadIfMoved 25 = .ok (.iconst 1, 1) := by decide +kernel
theorem dX10_leadIfMoved_26 : decode cX10_leadIfMoved 26 = .ok (.aload_n 0, 1) := by decide +kernel
theorem dX10_leadIfMoved_27 : decode cX10_leadIfMoved 27 = .ok (.getfield 9, 3) := by decide +kernel
theorem dX10_leadIfMoved_30 : decode cX10_leadIfMoved 30 = .ok (.iload_n 1, 1) := by decide +kernel
theorem dX10_leadIfMoved_31 : decode cX10_leadIfMoved 31 = .ok (.iaload, 1) := by decide +kernel
theorem dX10_leadIfMoved_32 : decode cX10_leadIfMoved 32 = .ok (.isub, 1) := by decide +kernel
theorem dX10_leadIfMoved_33 : decode cX10_leadIfMoved 33 = .ok (.iastore, 1) := by decide +kernel
theorem dX10_leadIfMoved_34 : decode cX10_leadIfMoved 34 = .ok (.aload_n 0, 1) := by decide +kernel
theorem dX10_leadIfMoved_35 : decode cX10_leadIfMoved 35 = .ok (.iload_n 2, 1) := by decide +kernel
theorem dX10_leadIfMoved_36 : decode cX10_leadIfMoved 36 = .ok (.iload_n 3, 1) := by decide +kernel
theorem dX10_leadIfMoved_37 : decode cX10_leadIfMoved 37 = .ok (.iload 5, 2) := by decide +kernel
theorem dX10_leadIfMoved_39 : decode cX10_leadIfMoved 39 = .ok (.invokevirtual 71, 3) := by decide +kernel
theorem dX10_leadIfMoved_42 : decode cX10_leadIfMoved 42 = .ok (.istore 6, 2) := by decide +kernel
theorem dX10_leadIfMoved_44 : decode cX10_leadIfMoved 44 = .ok (.aload_n 0, 1) := by decide +kernel
theorem dX10_leadIfMoved_45 : decode cX10_leadIfMoved 45 = .ok (.getfield 9, 3) := by decide +kernel
theorem dX10_leadIfMoved_48 : decode cX10_leadIfMoved 48 = .ok (.iload_n 1, 1) := by decide +kernel
theorem dX10_leadIfMoved_49 : decode cX10_leadIfMoved 49 = .ok (.iconst 1, 1) := by decide +kernel
theorem dX10_leadIfMoved_50 : decode cX10_leadIfMoved 50 = .ok (.aload_n 0, 1) := by decide +kernel
theorem dX10_leadIfMoved_51 : decode cX10_leadIfMoved 51 = .ok (.getfield 9, 3) := by decide +kernel
theorem dX10_leadIfMoved_54 : decode cX10_leadIfMoved 54 = .ok (.iload_n 1, 1) := by decide +kernel
theorem dX10_leadIfMoved_55 : decode cX10_leadIfMoved 55 = .ok (.iaload, 1) := by decide +kernel
theorem dX10_leadIfMoved_56 : decode cX10_leadIfMoved 56 = .ok (.isub, 1) := by decide +kernel
theorem dX10_leadIfMoved_57 : decode cX10_leadIfMoved 57 = .ok (.iastore, 1) := by decide +kernel
theorem dX10_leadIfMoved_58 : decode cX10_leadIfMoved 58 = .ok (.iload 6, 2) := by decide +kernel
theorem dX10_leadIfMoved_60 : decode cX10_leadIfMoved 60 = .ok (.ireturn, 1) := by decide +kernel
theorem dX11_init_0 : decode cX11_init 0 = .ok (.aload_n 0, 1) := by decide +kernel
theorem dX11_init_1 : decode cX11_init 1 = .ok (.invokespecial 1, 3) := by decide +kernel
theorem dX11_init_4 : decode cX11_init 4 = .ok (.new 7, 3) := by decide +kernel
theorem dX11_init_7 : decode cX11_init 7 = .ok (.dup, 1) := by decide +kernel
theorem dX11_init_8 : decode cX11_init 8 = .ok (.invokespecial 9, 3) := by decide +kernel
theorem dX11_init_11 : decode cX11_init 11 = .ok (.astore_n 1, 1) := by decide +kernel
theorem dX11_init_12 : decode cX11_init 12 = .ok (.new 10, 3) := by decide +kernel
theorem dX11_init_15 : decode cX11_init 15 = .ok (.dup, 1) := by decide +kernel
theorem dX11_init_16 : decode cX11_init 16 = .ok (.aload_n 1, 1) := by decide +kernel
theorem dX11_init_17 : decode cX11_init 17 = .ok (.invokespecial 12, 3) := by decide +kernel
theorem dX11_init_20 : decode cX11_init 20 = .ok (.astore_n 2, 1) := by decide +kernel
theorem dX11_init_21 : decode cX11_init 21 = .ok (.new 15, 3) := by decide +kernel
theorem dX11_init_24 : decode cX11_init 24 = .ok (.dup, 1) := by decide +kernel
theorem dX11_init_25 : decode cX11_init 25 = .ok (.aload_n 1, 1) := by decide +kernel
theorem dX11_init_26 : decode cX11_init 26 = .ok (.aload_n 2, 1) := by decide +kernel
theorem dX11_init_27 : decode cX11_init 27 = .ok (.invokespecial 17, 3) := by decide +kernel
theorem dX11_init_30 : decode cX11_init 30 = .ok (.astore_n 3, 1) := by decide +kernel
theorem dX11_init_31 : decode cX11_init 31 = .ok (.new 20, 3) := by decide +kernel
theorem dX11_init_34 : decode cX11_init 34 = .ok (.dup, 1) := by decide +kernel
theorem dX11_init_35 : decode cX11_init 35 = .ok (.invokespecial 22, 3) := by decide +kernel
theorem dX11_init_38 : decode cX11_init 38 = .ok (.astore 4, 2) := by decide +kernel
theorem dX11_init_40 : decode cX11_init 40 = .ok (.new 23, 3) := by decide +kernel
theorem dX11_init_43 : decode cX11_init 43 = .ok (.dup, 1) := by decide +kernel
theorem dX11_init_44 : decode cX11_init 44 = .ok (.invokespecial 25, 3) := by decide +kernel
theorem dX11_init_47 : decode cX11_init 47 = .ok (.astore 5, 2) := by decide +kernel
theorem dX11_init_49 : decode cX11_init 49 = .ok (.aload_n 0, 1) := by decide +kernel
theorem dX11_init_50 : decode cX11_init 50 = .ok (.aload_n 1, 1) := by decide +kernel
theorem dX11_init_51 : decode cX11_init 51 = .ok (.putfield 26, 3) := by decide +kernel
theorem dX11_init_54 : decode cX11_init 54 = .ok (.aload_n 0, 1) := by decide +kernel
theorem dX11_init_55 : decode cX11_init 55 = .ok (.aload_n 2, 1) := by decide +kernel
theorem dX11_init_56 : decode cX11_init 56 = .ok (.putfield 32, 3) := by decide +kernel
theorem dX11_init_59 : decode cX11_init 59 = .ok (.aload_n 0, 1) := by decide +kernel
theorem dX11_init_60 : decode cX11_init 60 = .ok (.new 10, 3) := by decide +kernel
theorem dX11_init_63 : decode cX11_init 63 = .ok (.dup, 1) := by decide +kernel
theorem dX11_init_64 : decode cX11_init 64 = .ok (.aload_n 1, 1) := by decide +kernel
theorem dX11_init_65 : decode cX11_init 65 = .ok (.invokespecial 12, 3) := by decide +kernel
theorem dX11_init_68 : decode cX11_init 68 = .ok (.putfield 36, 3) := by decide +kernel
theorem dX11_init_71 : decode cX11_init 71 = .ok (.aload_n 0, 1) := by decide +kernel
theorem dX11_init_72 : decode cX11_init 72 = .ok (.aload_n 3, 1) := by decide +kernel
theorem dX11_init_73 : decode cX11_init 73 = .ok (.putfield 39, 3) := by decide +kernel
theorem dX11_init_76 : decode cX11_init 76 = .ok (.aload_n 0, 1) := by decide +kernel
theorem dX11_init_77 : decode cX11_init 77 = .ok (.new 43, 3) := by decide +kernel
theorem dX11_init_80 : decode cX11_init 80 = .ok (.dup, 1) := by decide +kernel
theorem dX11_init_81 : decode cX11_init 81 = .ok (.aload_n 3, 1) := by decide +kernel
theorem dX11_init_82 : decode cX11_init 82 = .ok (.invokespecial 45, 3) := by decide +kernel
theorem dX11_init_85 : decode cX11_init 85 = .ok (.putfield 48, 3) := by decide +kernel
theorem dX11_init_88 : decode cX11_init 88 = .ok (.aload_n 0, 1) := by decide +kernel
theorem dX11_init_89 : decode cX11_init 89 = .ok (.new 52, 3) := by decide +kernel
theorem dX11_init_92 : decode cX11_init 92 = .ok (.dup, 1) := by decide +kernel
theorem dX11_init_93 : decode cX11_init 93 = .ok (.invokespecial 54, 3) := by decide +kernel
theorem dX11_init_96 : decode cX11_init 96 = .ok (.putfield 55, 3) := by decide +kernel
theorem dX11_init_99 : decode cX11_init 99 = .ok (.aload_n 0, 1) := by decide +kernel
theorem dX11_init_100 : decode cX11_init 100 = .ok (.aload 4, 2) := by decide +kernel
theorem dX11_init_102 : decode cX11_init 102 = .ok (.putfield 59, 3) := by decide +kernel
theorem dX11_init_105 : decode cX11_init 105 = .ok (.aload_n 0, 1) := by decide +kernel
theorem dX11_init_106 : decode cX11_init 106 = .ok (.new 63, 3) := by decide +kernel
theorem dX11_init_109 : decode cX11_init 109 = .ok (.dup, 1) := by decide +kernel
theorem dX11_init_110 : decode cX11_init 110 = .ok (.aload_n 1, 1) := by decide +kernel
theorem dX11_init_111 : decode cX11_init 111 = .ok (.aload_n 2, 1) := by decide +kernel
theorem dX11_init_112 : decode cX11_init 112 = .ok (.aload 4, 2) := by decide +kernel
theorem dX11_init_114 : decode cX11_init 114 = .ok (.invokespecial 65, 3) := by decide +kernel
theorem dX11_init_117 : decode cX11_init 117 = .ok (.putfield 68, 3) := by decide +kernel
theorem dX11_init_120 : decode cX11_init 120 = .ok (.aload_n 0, 1) := by decide +kernel
theorem dX11_init_121 : decode cX11_init 121 = .ok (.new 72, 3) := by decide +kernel
theorem dX11_init_124 : decode cX11_init 124 = .ok (.dup, 1) := by decide +kernel
theorem dX11_init_125 : decode cX11_init 125 = .ok (.aload_n 1, 1) := by decide +kernel
theorem dX11_init_126 : decode cX11_init 126 = .ok (.aload_n 2, 1) := by decide +kernel
theorem dX11_init_127 : decode cX11_init 127 = .ok (.aload 5, 2) := by decide +kernel
theorem dX11_init_129 : decode cX11_init 129 = .ok (.invokespecial 74, 3) := by decide +kernel
theorem dX11_init_132 : decode cX11_init 132 = .ok (.putfield 77, 3) := by decide +kernel
theorem dX11_init_135 : decode cX11_init 135 = .ok (.aload_n 0, 1) := by decide +kernel
theorem dX11_init_136 : decode cX11_init 136 = .ok (.new 81, 3) := by decide +kernel
theorem dX11_init_139 : decode cX11_init 139 = .ok (.dup, 1) := by decide +kernel
theorem dX11_init_140 : decode cX11_init 140 = .ok (.aload_n 1, 1) := by decide +kernel
theorem dX11_init_141 : decode cX11_init 141 = .ok (.aload_n 2, 1) := by decide +kernel
theorem dX11_init_142 : decode cX11_init 142 = .ok (.invokespecial 83, 3) := by decide +kernel
theorem dX11_init_145 : decode cX11_init 145 = .ok (.putfield 84, 3) := by decide +kernel
theorem dX11_init_148 : decode cX11_init 148 = .ok (.aload_n 0, 1) := by decide +kernel
theorem dX11_init_149 : decode cX11_init 149 = .ok (.new 88, 3) := by decide +kernel
theorem dX11_init_152 : decode cX11_init 152 = .ok (.dup, 1) := by decide +kernel
theorem dX11_init_153 : decode cX11_init 153 = .ok (.invokespecial 90, 3) := by decide +kernel
theorem dX11_init_156 : decode cX11_init 156 = .ok (.putfield 91, 3) := by decide +kernel
theorem dX11_init_159 : decode cX11_init 159 = .ok (.aload_n 0, 1) := by decide +kernel
theorem dX11_init_160 : decode cX11_init 160 = .ok (.aload 5, 2) := by decide +kernel
theorem dX11_init_162 : decode cX11_init 162 = .ok (.putfield 95, 3) := by decide +kernel
theorem dX11_init_165 : decode cX11_init 165 = .ok (.return_, 1) := by decide +kernel
theorem dX11_person_0 : decode cX11_person 0 = .ok (.iload_n 1, 1) := by decide +kernel
theorem dX11_person_1 : decode cX11_person 1 = .ok (.iconst 0, 1) := by decide +kernel
theorem dX11_person_2 : decode cX11_person 2 = .ok (.bipush 11, 2) := by decide +kernel
theorem dX11_person_4 : decode cX11_person 4 = .ok (.invokestatic 99, 3) := by decide +kernel
theorem dX11_person_7 : decode cX11_person 7 = .ok (.ifCond .ne 5, 3) := by decide +kernel
theorem dX11_person_10 : decode cX11_person 10 = .ok (.iconst (-1), 1) := by decide +kernel
theorem dX11_person_11 : decode cX11_person 11 = .ok (.ireturn, 1) := by decide +kernel
theorem dX11_person_12 : decode cX11_person 12 = .ok (.aload_n 0, 1) := by decide +kernel
theorem dX11_person_13 : decode cX11_person 13 = .ok (.getfield 26, 3) := by decide +kernel
theorem dX11_person_16 : decode cX11_person 16 = .ok (.getfield 103, 3) := by decide +kernel
theorem dX11_person_19 : decode cX11_person 19 = .ok (.bipush 7, 2) := by decide +kernel
theorem dX11_person_21 : decode cX11_person 21 = .ok (.if_icmp .lt 6, 3) := by decide +kernel
theorem dX11_person_24 : decode cX11_person 24 = .ok (.bipush (-3), 2) := by decide +kernel
theorem dX11_person_26 : decode cX11_person 26 = .ok (.ireturn, 1) := by decide +kernel
theorem dX11_person_27 : decode cX11_person 27 = .ok (.aload_n 0, 1) := by decide +kernel
theorem dX11_person_28 : decode cX11_person 28 = .ok (.getfield 32, 3) := by decide +kernel
theorem dX11_person_31 : decode cX11_person 31 = .ok (.getfield 107, 3) := by decide +kernel
theorem dX11_person_34 : decode cX11_person 34 = .ok (.aload_n 0, 1) := by decide +kernel
theorem dX11_person_35 : decode cX11_person 35 = .ok (.getfield 26, 3) := by decide +kernel
theorem dX11_person_38 : decode cX11_person 38 = .ok (.getfield 103, 3) := by decide +kernel
theorem dX11_person_41 : decode cX11_person 41 = .ok (.iload_n 1, 1) := by decide +kernel
theorem dX11_person_42 : decode cX11_person 42 = .ok (.iastore, 1) := by decide +kernel
theorem dX11_person_43 : decode cX11_person 43 = .ok (.aload_n 0, 1) := by decide +kernel
theorem dX11_person_44 : decode cX11_person 44 = .ok (.getfield 26, 3) := by decide +kernel
theorem dX11_person_47 : decode cX11_person 47 = .ok (.dup, 1) := by decide +kernel
theorem dX11_person_48 : decode cX11_person 48 = .ok (.getfield 103, 3) := by decide +kernel
theorem dX11_person_51 : decode cX11_person 51 = .ok (.dup_x1, 1) := by decide +kernel
theorem dX11_person_52 : decode cX11_person 52 = .ok (.iconst 1, 1) := by decide +kernel
theorem dX11_person_53 : decode cX11_person 53 = .ok (.iadd, 1) := by decide +kernel
theorem dX11_person_54 : decode cX11_person 54 = .ok (.putfield 103, 3) := by decide +kernel
theorem dX11_person_57 : decode cX11_person 57 = .ok (.ireturn, 1) := by decide +kernel
theorem dX11_joy_0 : decode cX11_joy 0 = .ok (.aload_n 0, 1) := by decide +kernel
theorem dX11_joy_1 : decode cX11_joy 1 = .ok (.getfield 26, 3) := by decide +kernel
theorem dX11_joy_4 : decode cX11_joy 4 = .ok (.iload_n 1, 1) := by decide +kernel
theorem dX11_joy_5 : decode cX11_joy 5 = .ok (.invokevirtual 111, 3) := by decide +kernel
theorem dX11_joy_8 : decode cX11_joy 8 = .ok (.ifCond .eq 13, 3) := by decide +kernel
theorem dX11_joy_11 : decode cX11_joy 11 = .ok (.iload_n 2, 1) := by decide +kernel
theorem dX11_joy_12 : decode cX11_joy 12 = .ok (.iconst 0, 1) := by decide +kernel
theorem dX11_joy_13 : decode cX11_joy 13 = .ok (.bipush 99, 2) := by decide +kernel
theorem dX11_joy_15 : decode cX11_joy 15 = .ok (.invokestatic 99, 3) := by decide +kernel
theorem dX11_joy_18 : decode cX11_joy 18 = .ok (.ifCond .ne 5, 3) := by decide +kernel
theorem dX11_joy_21 : decode cX11_joy 21 = .ok (.iconst (-1), 1) := by decide +kernel
theorem dX11_joy_22 : decode cX11_joy 22 = .ok (.ireturn, 1) := by decide +kernel
theorem dX11_joy_23 : decode cX11_joy 23 = .ok (.aload_n 0, 1) := by decide +kernel
theorem dX11_joy_24 : decode cX11_joy 24 = .ok (.getfield 26, 3) := by decide +kernel
theorem dX11_joy_27 : decode cX11_joy 27 = .ok (.getfield 115, 3) := by decide +kernel
theorem dX11_joy_30 : decode cX11_joy 30 = .ok (.bipush 10, 2) := by decide +kernel
theorem dX11_joy_32 : decode cX11_joy 32 = .ok (.if_icmp .lt 6, 3) := by decide +kernel
theorem dX11_joy_35 : decode cX11_joy 35 = .ok (.bipush (-3), 2) := by decide +kernel
theorem dX11_joy_37 : decode cX11_joy 37 = .ok (.ireturn, 1) := by decide +kernel
theorem dX11_joy_38 : decode cX11_joy 38 = .ok (.aload_n 0, 1) := by decide +kernel
theorem dX11_joy_39 : decode cX11_joy 39 = .ok (.getfield 26, 3) := by decide +kernel
theorem dX11_joy_42 : decode cX11_joy 42 = .ok (.iload_n 1, 1) := by decide +kernel
theorem dX11_joy_43 : decode cX11_joy 43 = .ok (.iload_n 2, 1) := by decide +kernel
theorem dX11_joy_44 : decode cX11_joy 44 = .ok (.invokevirtual 118, 3) := by decide +kernel
theorem dX11_joy_47 : decode cX11_joy 47 = .ok (.ireturn, 1) := by decide +kernel
theorem dX11_joys_0 : decode cX11_joys 0 = .ok (.iload_n 3, 1) := by decide +kernel
theorem dX11_joys_1 : decode cX11_joys 1 = .ok (.iconst 1, 1) := by decide +kernel
theorem dX11_joys_2 : decode cX11_joys 2 = .ok (.bipush 10, 2) := by decide +kernel
theorem dX11_joys_4 : decode cX11_joys 4 = .ok (.invokestatic 99, 3) := by decide +kernel
theorem dX11_joys_7 : decode cX11_joys 7 = .ok (.ifCond .ne 5, 3) := by decide +kernel
theorem dX11_joys_10 : decode cX11_joys 10 = .ok (.iconst (-1), 1) := by decide +kernel
theorem dX11_joys_11 : decode cX11_joys 11 = .ok (.ireturn, 1) := by decide +kernel
theorem dX11_joys_12 : decode cX11_joys 12 = .ok (.aload_n 0, 1) := by decide +kernel
theorem dX11_joys_13 : decode cX11_joys 13 = .ok (.getfield 95, 3) := by decide +kernel
theorem dX11_joys_16 : decode cX11_joys 16 = .ok (.iload_n 1, 1) := by decide +kernel
theorem dX11_joys_17 : decode cX11_joys 17 = .ok (.invokevirtual 122, 3) := by decide +kernel
theorem dX11_joys_20 : decode cX11_joys 20 = .ok (.istore 4, 2) := by decide +kernel
theorem dX11_joys_22 : decode cX11_joys 22 = .ok (.iload 4, 2) := by decide +kernel
theorem dX11_joys_24 : decode cX11_joys 24 = .ok (.bipush (-11), 2) := by decide +kernel
theorem dX11_joys_26 : decode cX11_joys 26 = .ok (.if_icmp .ne 5, 3) := by decide +kernel
theorem dX11_joys_29 : decode cX11_joys 29 = .ok (.iconst 0, 1) := by decide +kernel
theorem dX11_joys_30 : decode cX11_joys 30 = .ok (.ireturn, 1) := by decide +kernel
theorem dX11_joys_31 : decode cX11_joys 31 = .ok (.iload 4, 2) := by decide +kernel
theorem dX11_joys_33 : decode cX11_joys 33 = .ok (.ifCond .eq 6, 3) := by decide +kernel
theorem dX11_joys_36 : decode cX11_joys 36 = .ok (.iload 4, 2) := by decide +kernel
theorem dX11_joys_38 : decode cX11_joys 38 = .ok (.ireturn, 1) := by decide +kernel
theorem dX11_joys_39 : decode cX11_joys 39 = .ok (.iconst 0, 1) := by decide +kernel
theorem dX11_joys_40 : decode cX11_joys 40 = .ok (.istore 5, 2) := by decide +kernel
theorem dX11_joys_42 : decode cX11_joys 42 = .ok (.iconst 0, 1) := by decide +kernel
theorem dX11_joys_43 : decode cX11_joys 43 = .ok (.istore 6, 2) := by decide +kernel
theorem dX11_joys_45 : decode cX11_joys 45 = .ok (.iload 6, 2) := by decide +kernel
theorem dX11_joys_47 : decode cX11_joys 47 = .ok (.iload_n 3, 1) := by decide +kernel
theorem dX11_joys_48 : decode cX11_joys 48 = .ok (.if_icmp .ge 26, 3) := by decide +kernel
theorem dX11_joys_51 : decode cX11_joys 51 = .ok (.aload_n 0, 1) := by decide +kernel
theorem dX11_joys_52 : decode cX11_joys 52 = .ok (.iload_n 1, 1) := by decide +kernel
theorem dX11_joys_53 : decode cX11_joys 53 = .ok (.iload_n 2, 1) := by decide +kernel
theorem dX11_joys_54 : decode cX11_joys 54 = .ok (.iconst 3, 1) := by decide +kernel
theorem dX11_joys_55 : decode cX11_joys 55 = .ok (.iload 6, 2) := by decide +kernel
theorem dX11_joys_57 : decode cX11_joys 57 = .ok (.imul, 1) := by decide +kernel
theorem dX11_joys_58 : decode cX11_joys 58 = .ok (.iadd, 1) := by decide +kernel
theorem dX11_joys_59 : decode cX11_joys 59 = .ok (.invokevirtual 126, 3) := by decide +kernel
theorem dX11_joys_62 : decode cX11_joys 62 = .ok (.ifCond .eq 12, 3) := by decide +kernel
theorem dX11_joys_65 : decode cX11_joys 65 = .ok (.iinc 5 1, 3) := by decide +kernel
theorem dX11_joys_68 : decode cX11_joys 68 = .ok (.iinc 6 1, 3) := by decide +kernel
theorem dX11_joys_71 : decode cX11_joys 71 = .ok (.goto (-26), 3) := by decide +kernel
theorem dX11_joys_74 : decode cX11_joys 74 = .ok (.iload 5, 2) := by decide +kernel
theorem dX11_joys_76 : decode cX11_joys 76 = .ok (.ireturn, 1) := by decide +kernel
theorem dX11_joyFromRow_0 : decode cX11_joyFromRow 0 = .ok (.iload_n 2, 1) := by decide +kernel
theorem dX11_joyFromRow_1 : decode cX11_joyFromRow 1 = .ok (.ifCond .lt 17, 3) := by decide +kernel
theorem dX11_joyFromRow_4 : decode cX11_joyFromRow 4 = .ok (.iload_n 2, 1) := by decide +kernel
theorem dX11_joyFromRow_5 : decode cX11_joyFromRow 5 = .ok (.aload_n 0, 1) := by decide +kernel
theorem dX11_joyFromRow_6 : decode cX11_joyFromRow 6 = .ok (.getfield 95, 3) := by decide +kernel
theorem dX11_joyFromRow_9 : decode cX11_joyFromRow 9 = .ok (.iload_n 1, 1) := by decide +kernel
theorem dX11_joyFromRow_10 : decode cX11_joyFromRow 10 = .ok (.invokevirtual 130, 3) := by decide +kernel
theorem dX11_joyFromRow_13 : decode cX11_joyFromRow 13 = .ok (.iconst 3, 1) := by decide +kernel
theorem dX11_joyFromRow_14 : decode cX11_joyFromRow 14 = .ok (.isub, 1) := by decide +kernel
theorem dX11_joyFromRow_15 : decode cX11_joyFromRow 15 = .ok (.if_icmp .le 5, 3) := by decide +kernel
theorem dX11_joyFromRow_18 : decode cX11_joyFromRow 18 = .ok (.iconst 0, 1) := by decide +kernel
theorem dX11_joyFromRow_19 : decode cX11_joyFromRow 19 = .ok (.ireturn, 1) := by decide +kernel
theorem dX11_joyFromRow_20 : decode cX11_joyFromRow 20 = .ok (.aload_n 0, 1) := by decide +kernel
theorem dX11_joyFromRow_21 : decode cX11_joyFromRow 21 = .ok (.getfield 95, 3) := by decide +kernel
theorem dX11_joyFromRow_24 : decode cX11_joyFromRow 24 = .ok (.iload_n 1, 1) := by decide +kernel
theorem dX11_joyFromRow_25 : decode cX11_joyFromRow 25 = .ok (.iload_n 2, 1) := by decide +kernel
theorem dX11_joyFromRow_26 : decode cX11_joyFromRow 26 = .ok (.invokevirtual 133, 3) := by decide +kernel
theorem dX11_joyFromRow_29 : decode cX11_joyFromRow 29 = .ok (.l2i, 1) := by decide +kernel
theorem dX11_joyFromRow_30 : decode cX11_joyFromRow 30 = .ok (.istore_n 3, 1) := by decide +kernel
theorem dX11_joyFromRow_31 : decode cX11_joyFromRow 31 = .ok (.aload_n 0, 1) := by decide +kernel
theorem dX11_joyFromRow_32 : decode cX11_joyFromRow 32 = .ok (.getfield 95, 3) := by decide +kernel
theorem dX11_joyFromRow_35 : decode cX11_joyFromRow 35 = .ok (.iload_n 1, 1) := by decide +kernel
theorem dX11_joyFromRow_36 : decode cX11_joyFromRow 36 = .ok (.iload_n 2, 1) := by decide +kernel
theorem dX11_joyFromRow_37 : decode cX11_joyFromRow 37 = .ok (.iconst 1, 1) := by decide +kernel
theorem dX11_joyFromRow_38 : decode cX11_joyFromRow 38 = .ok (.iadd, 1) := by decide +kernel
theorem dX11_joyFromRow_39 : decode cX11_joyFromRow 39 = .ok (.invokevirtual 133, 3) := by decide +kernel
theorem dX11_joyFromRow_42 : decode cX11_joyFromRow 42 = .ok (.l2i, 1) := by decide +kernel
theorem dX11_joyFromRow_43 : decode cX11_joyFromRow 43 = .ok (.istore 4, 2) := by decide +kernel
theorem dX11_joyFromRow_45 : decode cX11_joyFromRow 45 = .ok (.aload_n 0, 1) := by decide +kernel
theorem dX11_joyFromRow_46 : decode cX11_joyFromRow 46 = .ok (.getfield 95, 3) := by decide +kernel
theorem dX11_joyFromRow_49 : decode cX11_joyFromRow 49 = .ok (.iload_n 1, 1) := by decide +kernel
theorem dX11_joyFromRow_50 : decode cX11_joyFromRow 50 = .ok (.iload_n 2, 1) := by decide +kernel
theorem dX11_joyFromRow_51 : decode cX11_joyFromRow 51 = .ok (.iconst 2, 1) := by decide +kernel
theorem dX11_joyFromRow_52 : decode cX11_joyFromRow 52 = .ok (.iadd, 1) := by decide +kernel
theorem dX11_joyFromRow_53 : decode cX11_joyFromRow 53 = .ok (.invokevirtual 133, 3) := by decide +kernel
theorem dX11_joyFromRow_56 : decode cX11_joyFromRow 56 = .ok (.l2i, 1) := by decide +kernel
theorem dX11_joyFromRow_57 : decode cX11_joyFromRow 57 = .ok (.istore 5, 2) := by decide +kernel
theorem dX11_joyFromRow_59 : decode cX11_joyFromRow 59 = .ok (.iconst 4, 1) := by decide +kernel
theorem dX11_joyFromRow_60 : decode cX11_joyFromRow 60 = .ok (.iload 5, 2) := by decide +kernel
theorem dX11_joyFromRow_62 : decode cX11_joyFromRow 62 = .ok (.invokestatic 137, 3) := by decide +kernel
theorem dX11_joyFromRow_65 : decode cX11_joyFromRow 65 = .ok (.ifCond .ne 5, 3) := by decide +kernel
theorem dX11_joyFromRow_68 : decode cX11_joyFromRow 68 = .ok (.iconst 0, 1) := by decide +kernel
theorem dX11_joyFromRow_69 : decode cX11_joyFromRow 69 = .ok (.ireturn, 1) := by decide +kernel
theorem dX11_joyFromRow_70 : decode cX11_joyFromRow 70 = .ok (.aload_n 0, 1) := by decide +kernel
theorem dX11_joyFromRow_71 : decode cX11_joyFromRow 71 = .ok (.iload_n 3, 1) := by decide +kernel
theorem dX11_joyFromRow_72 : decode cX11_joyFromRow 72 = .ok (.iload 4, 2) := by decide +kernel
theorem dX11_joyFromRow_74 : decode cX11_joyFromRow 74 = .ok (.invokevirtual 140, 3) := by decide +kernel
theorem dX11_joyFromRow_77 : decode cX11_joyFromRow 77 = .ok (.istore 6, 2) := by decide +kernel
theorem dX11_joyFromRow_79 : decode cX11_joyFromRow 79 = .ok (.aload_n 0, 1) := by decide +kernel
theorem dX11_joyFromRow_80 : decode cX11_joyFromRow 80 = .ok (.getfield 26, 3) := by decide +kernel
theorem dX11_joyFromRow_83 : decode cX11_joyFromRow 83 = .ok (.iload 6, 2) := by decide +kernel
theorem dX11_joyFromRow_85 : decode cX11_joyFromRow 85 = .ok (.invokevirtual 143, 3) := by decide +kernel
theorem dX11_joyFromRow_88 : decode cX11_joyFromRow 88 = .ok (.ifCond .ne 5, 3) := by decide +kernel
theorem dX11_joyFromRow_91 : decode cX11_joyFromRow 91 = .ok (.iconst 0, 1) := by decide +kernel
theorem dX11_joyFromRow_92 : decode cX11_joyFromRow 92 = .ok (.ireturn, 1) := by decide +kernel
theorem dX11_joyFromRow_93 : decode cX11_joyFromRow 93 = .ok (.aload_n 0, 1) := by decide +kernel
theorem dX11_joyFromRow_94 : decode cX11_joyFromRow 94 = .ok (.getfield 26, 3) := by decide +kernel
theorem dX11_joyFromRow_97 : decode cX11_joyFromRow 97 = .ok (.getfield 146, 3) := by decide +kernel
theorem dX11_joyFromRow_100 : decode cX11_joyFromRow 100 = .ok (.iload 6, 2) := by decide +kernel
theorem dX11_joyFromRow_102 : decode cX11_joyFromRow 102 = .ok (.iload 5, 2) := by decide +kernel
theorem dX11_joyFromRow_104 : decode cX11_joyFromRow 104 = .ok (.iastore, 1) := by decide +kernel
theorem dX11_joyFromRow_105 : decode cX11_joyFromRow 105 = .ok (.iconst 1, 1) := by decide +kernel
theorem dX11_joyFromRow_106 : decode cX11_joyFromRow 106 = .ok (.ireturn, 1) := by decide +kernel
theorem dX11_mend_0 : decode cX11_mend 0 = .ok (.aload_n 0, 1) := by decide +kernel
theorem dX11_mend_1 : decode cX11_mend 1 = .ok (.getfield 39, 3) := by decide +kernel
theorem dX11_mend_4 : decode cX11_mend 4 = .ok (.iload_n 1, 1) := by decide +kernel
theorem dX11_mend_5 : decode cX11_mend 5 = .ok (.iload_n 2, 1) := by decide +kernel
theorem dX11_mend_6 : decode cX11_mend 6 = .ok (.invokevirtual 149, 3) := by decide +kernel
theorem dX11_mend_9 : decode cX11_mend 9 = .ok (.ifCond .eq 11, 3) := by decide +kernel
theorem dX11_mend_12 : decode cX11_mend 12 = .ok (.iload_n 2, 1) := by decide +kernel
theorem dX11_mend_13 : decode cX11_mend 13 = .ok (.iload_n 3, 1) := by decide +kernel
theorem dX11_mend_14 : decode cX11_mend 14 = .ok (.invokestatic 137, 3) := by decide +kernel
theorem dX11_mend_17 : decode cX11_mend 17 = .ok (.ifCond .ne 5, 3) := by decide +kernel
theorem dX11_mend_20 : decode cX11_mend 20 = .ok (.iconst (-1), 1) := by decide +kernel
theorem dX11_mend_21 : decode cX11_mend 21 = .ok (.ireturn, 1) := by decide +kernel
theorem dX11_mend_22 : decode cX11_mend 22 = .ok (.aload_n 0, 1) := by decide +kernel
theorem dX11_mend_23 : decode cX11_mend 23 = .ok (.getfield 39, 3) := by decide +kernel
theorem dX11_mend_26 : decode cX11_mend 26 = .ok (.iload_n 1, 1) := by decide +kernel
theorem dX11_mend_27 : decode cX11_mend 27 = .ok (.iload_n 2, 1) := by decide +kernel
theorem dX11_mend_28 : decode cX11_mend 28 = .ok (.invokevirtual 152, 3) := by decide +kernel
theorem dX11_mend_31 : decode cX11_mend 31 = .ok (.istore 4, 2) := by decide +kernel
theorem dX11_mend_33 : decode cX11_mend 33 = .ok (.iload 4, 2) := by decide +kernel
theorem dX11_mend_35 : decode cX11_mend 35 = .ok (.iload_n 3, 1) := by decide +kernel
theorem dX11_mend_36 : decode cX11_mend 36 = .ok (.if_icmp .eq 25, 3) := by decide +kernel
theorem dX11_mend_39 : decode cX11_mend 39 = .ok (.aload_n 0, 1) := by decide +kernel
theorem dX11_mend_40 : decode cX11_mend 40 = .ok (.getfield 48, 3) := by decide +kernel
theorem dX11_mend_43 : decode cX11_mend 43 = .ok (.iload_n 1, 1) := by decide +kernel
theorem dX11_mend_44 : decode cX11_mend 44 = .ok (.iload_n 2, 1) := by decide +kernel
theorem dX11_mend_45 : decode cX11_mend 45 = .ok (.iload 4, 2) := by decide +kernel
theorem dX11_mend_47 : decode cX11_mend 47 = .ok (.iload_n 3, 1) := by decide +kernel
theorem dX11_mend_48 : decode cX11_mend 48 = .ok (.invokevirtual 155, 3) := by decide +kernel
theorem dX11_mend_51 : decode cX11_mend 51 = .ok (.aload_n 0, 1) := by decide +kernel
theorem dX11_mend_52 : decode cX11_mend 52 = .ok (.getfield 39, 3) := by decide +kernel
theorem dX11_mend_55 : decode cX11_mend 55 = .ok (.iload_n 1, 1) := by decide +kernel
theorem dX11_mend_56 : decode cX11_mend 56 = .ok (.iload_n 2, 1) := by decide +kernel
theorem dX11_mend_57 : decode cX11_mend 57 = .ok (.iload_n 3, 1) := by decide +kernel
theorem dX11_mend_58 : decode cX11_mend 58 = .ok (.invokevirtual 159, 3) := by decide +kernel
theorem dX11_mend_61 : decode cX11_mend 61 = .ok (.iload 4, 2) := by decide +kernel
theorem dX11_mend_63 : decode cX11_mend 63 = .ok (.ireturn, 1) := by decide +kernel
theorem dX11_of_0 : decode cX11_of 0 = .ok (.iload_n 2, 1) := by decide +kernel
theorem dX11_of_1 : decode cX11_of 1 = .ok (.bipush 12, 2) := by decide +kernel
theorem dX11_of_3 : decode cX11_of 3 = .ok (.if_icmp .ne 28, 3) := by decide +kernel
theorem dX11_of_6 : decode cX11_of 6 = .ok (.aload_n 0, 1) := by decide +kernel
theorem dX11_of_7 : decode cX11_of 7 = .ok (.getfield 26, 3) := by decide +kernel
theorem dX11_of_10 : decode cX11_of 10 = .ok (.iload_n 1, 1) := by decide +kernel
theorem dX11_of_11 : decode cX11_of 11 = .ok (.invokevirtual 143, 3) := by decide +kernel
theorem dX11_of_14 : decode cX11_of 14 = .ok (.ifCond .eq 15, 3) := by decide +kernel
theorem dX11_of_17 : decode cX11_of 17 = .ok (.aload_n 0, 1) := by decide +kernel
theorem dX11_of_18 : decode cX11_of 18 = .ok (.getfield 26, 3) := by decide +kernel
theorem dX11_of_21 : decode cX11_of 21 = .ok (.getfield 163, 3) := by decide +kernel
theorem dX11_of_24 : decode cX11_of 24 = .ok (.iload_n 1, 1) := by decide +kernel
theorem dX11_of_25 : decode cX11_of 25 = .ok (.iaload, 1) := by decide +kernel
theorem dX11_of_26 : decode cX11_of 26 = .ok (.goto 4, 3) := by decide +kernel
theorem dX11_of_29 : decode cX11_of 29 = .ok (.iconst (-1), 1) := by decide +kernel
theorem dX11_of_30 : decode cX11_of 30 = .ok (.ireturn, 1) := by decide +kernel
theorem dX11_of_31 : decode cX11_of 31 = .ok (.aload_n 0, 1) := by decide +kernel
theorem dX11_of_32 : decode cX11_of 32 = .ok (.getfield 39, 3) := by decide +kernel
theorem dX11_of_35 : decode cX11_of 35 = .ok (.iload_n 1, 1) := by decide +kernel
theorem dX11_of_36 : decode cX11_of 36 = .ok (.iload_n 2, 1) := by decide +kernel
theorem dX11_of_37 : decode cX11_of 37 = .ok (.invokevirtual 149, 3) := by decide +kernel
theorem dX11_of_40 : decode cX11_of 40 = .ok (.ifCond .eq 15, 3) := by decide +kernel
theorem dX11_of_43 : decode cX11_of 43 = .ok (.aload_n 0, 1) := by decide +kernel
theorem dX11_of_44 : decode cX11_of 44 = .ok (.getfield 39, 3) := by decide +kernel
theorem dX11_of_47 : decode cX11_of 47 = .ok (.iload_n 1, 1) := by decide +kernel
theorem dX11_of_48 : decode cX11_of 48 = .ok (.iload_n 2, 1) := by decide +kernel
theorem dX11_of_49 : decode cX11_of 49 = .ok (.invokevirtual 152, 3) := by decide +kernel
theorem dX11_of_52 : decode cX11_of 52 = .ok (.goto 4, 3) := by decide +kernel
theorem dX11_of_55 : decode cX11_of 55 = .ok (.iconst (-1), 1) := by decide +kernel
theorem dX11_of_56 : decode cX11_of 56 = .ok (.ireturn, 1) := by decide +kernel
theorem dX11_feed_0 : decode cX11_feed 0 = .ok (.iload_n 1, 1) := by decide +kernel
theorem dX11_feed_1 : decode cX11_feed 1 = .ok (.iconst 0, 1) := by decide +kernel
theorem dX11_feed_2 : decode cX11_feed 2 = .ok (.sipush 255, 3) := by decide +kernel
theorem dX11_feed_5 : decode cX11_feed 5 = .ok (.invokestatic 99, 3) := by decide +kernel
theorem dX11_feed_8 : decode cX11_feed 8 = .ok (.ifCond .ne 5, 3) := by decide +kernel
theorem dX11_feed_11 : decode cX11_feed 11 = .ok (.iconst (-1), 1) := by decide +kernel
theorem dX11_feed_12 : decode cX11_feed 12 = .ok (.ireturn, 1) := by decide +kernel
theorem dX11_feed_13 : decode cX11_feed 13 = .ok (.aload_n 0, 1) := by decide +kernel
theorem dX11_feed_14 : decode cX11_feed 14 = .ok (.getfield 55, 3) := by decide +kernel
theorem dX11_feed_17 : decode cX11_feed 17 = .ok (.iload_n 1, 1) := by decide +kernel
theorem dX11_feed_18 : decode cX11_feed 18 = .ok (.invokevirtual 166, 3) := by decide +kernel
theorem dX11_feed_21 : decode cX11_feed 21 = .ok (.ifCond .eq 13, 3) := by decide +kernel
theorem dX11_feed_24 : decode cX11_feed 24 = .ok (.aload_n 0, 1) := by decide +kernel
theorem dX11_feed_25 : decode cX11_feed 25 = .ok (.getfield 55, 3) := by decide +kernel
theorem dX11_feed_28 : decode cX11_feed 28 = .ok (.getfield 169, 3) := by decide +kernel
theorem dX11_feed_31 : decode cX11_feed 31 = .ok (.goto 5, 3) := by decide +kernel
theorem dX11_feed_34 : decode cX11_feed 34 = .ok (.bipush (-3), 2) := by decide +kernel
theorem dX11_feed_36 : decode cX11_feed 36 = .ok (.ireturn, 1) := by decide +kernel
theorem dX11_law_0 : decode cX11_law 0 = .ok (.aload_n 0, 1) := by decide +kernel
theorem dX11_law_1 : decode cX11_law 1 = .ok (.getfield 55, 3) := by decide +kernel
theorem dX11_law_4 : decode cX11_law 4 = .ok (.invokevirtual 172, 3) := by decide +kernel
theorem dX11_law_7 : decode cX11_law 7 = .ok (.istore_n 1, 1) := by decide +kernel
theorem dX11_law_8 : decode cX11_law 8 = .ok (.iload_n 1, 1) := by decide +kernel
theorem dX11_law_9 : decode cX11_law 9 = .ok (.iconst 1, 1) := by decide +kernel
theorem dX11_law_10 : decode cX11_law 10 = .ok (.if_icmp .ne 17, 3) := by decide +kernel
theorem dX11_law_13 : decode cX11_law 13 = .ok (.aload_n 0, 1) := by decide +kernel
theorem dX11_law_14 : decode cX11_law 14 = .ok (.getfield 59, 3) := by decide +kernel
theorem dX11_law_17 : decode cX11_law 17 = .ok (.aload_n 0, 1) := by decide +kernel
theorem dX11_law_18 : decode cX11_law 18 = .ok (.getfield 55, 3) := by decide +kernel
theorem dX11_law_21 : decode cX11_law 21 = .ok (.getfield 176, 3) := by decide +kernel
theorem dX11_law_24 : decode cX11_law 24 = .ok (.invokevirtual 179, 3) := by decide +kernel
theorem dX11_law_27 : decode cX11_law 27 = .ok (.aload_n 0, 1) := by decide +kernel
theorem dX11_law_28 : decode cX11_law 28 = .ok (.getfield 55, 3) := by decide +kernel
theorem dX11_law_31 : decode cX11_law 31 = .ok (.iconst 0, 1) := by decide +kernel
theorem dX11_law_32 : decode cX11_law 32 = .ok (.putfield 169, 3) := by decide +kernel
theorem dX11_law_35 : decode cX11_law 35 = .ok (.iload_n 1, 1) := by decide +kernel
theorem dX11_law_36 : decode cX11_law 36 = .ok (.ireturn, 1) := by decide +kernel
theorem dX11_smell_0 : decode cX11_smell 0 = .ok (.aload_n 0, 1) := by decide +kernel
theorem dX11_smell_1 : decode cX11_smell 1 = .ok (.getfield 26, 3) := by decide +kernel
theorem dX11_smell_4 : decode cX11_smell 4 = .ok (.iload_n 1, 1) := by decide +kernel
theorem dX11_smell_5 : decode cX11_smell 5 = .ok (.invokevirtual 143, 3) := by decide +kernel
theorem dX11_smell_8 : decode cX11_smell 8 = .ok (.ifCond .eq 13, 3) := by decide +kernel
theorem dX11_smell_11 : decode cX11_smell 11 = .ok (.iload_n 2, 1) := by decide +kernel
theorem dX11_smell_12 : decode cX11_smell 12 = .ok (.iconst 0, 1) := by decide +kernel
theorem dX11_smell_13 : decode cX11_smell 13 = .ok (.bipush 11, 2) := by decide +kernel
theorem dX11_smell_15 : decode cX11_smell 15 = .ok (.invokestatic 99, 3) := by decide +kernel
theorem dX11_smell_18 : decode cX11_smell 18 = .ok (.ifCond .ne 5, 3) := by decide +kernel
theorem dX11_smell_21 : decode cX11_smell 21 = .ok (.iconst (-1), 1) := by decide +kernel
theorem dX11_smell_22 : decode cX11_smell 22 = .ok (.ireturn, 1) := by decide +kernel
theorem dX11_smell_23 : decode cX11_smell 23 = .ok (.iload_n 2, 1) := by decide +kernel
theorem dX11_smell_24 : decode cX11_smell 24 = .ok (.iconst 2, 1) := by decide +kernel
theorem dX11_smell_25 : decode cX11_smell 25 = .ok (.irem, 1) := by decide +kernel
theorem dX11_smell_26 : decode cX11_smell 26 = .ok (.aload_n 0, 1) := by decide +kernel
theorem dX11_smell_27 : decode cX11_smell 27 = .ok (.getfield 32, 3) := by decide +kernel
theorem dX11_smell_30 : decode cX11_smell 30 = .ok (.iload_n 1, 1) := by decide +kernel
theorem dX11_smell_31 : decode cX11_smell 31 = .ok (.invokevirtual 183, 3) := by decide +kernel
theorem dX11_smell_34 : decode cX11_smell 34 = .ok (.if_icmp .ne 5, 3) := by decide +kernel
theorem dX11_smell_37 : decode cX11_smell 37 = .ok (.iconst (-1), 1) := by decide +kernel
theorem dX11_smell_38 : decode cX11_smell 38 = .ok (.ireturn, 1) := by decide +kernel
theorem dX11_smell_39 : decode cX11_smell 39 = .ok (.aload_n 0, 1) := by decide +kernel
theorem dX11_smell_40 : decode cX11_smell 40 = .ok (.getfield 68, 3) := by decide +kernel
theorem dX11_smell_43 : decode cX11_smell 43 = .ok (.iload_n 1, 1) := by decide +kernel
theorem dX11_smell_44 : decode cX11_smell 44 = .ok (.iload_n 2, 1) := by decide +kernel
theorem dX11_smell_45 : decode cX11_smell 45 = .ok (.invokevirtual 186, 3) := by decide +kernel
theorem dX11_smell_48 : decode cX11_smell 48 = .ok (.ireturn, 1) := by decide +kernel
theorem dX11_smelt_0 : decode cX11_smelt 0 = .ok (.aload_n 0, 1) := by decide +kernel
theorem dX11_smelt_1 : decode cX11_smelt 1 = .ok (.getfield 26, 3) := by decide +kernel
theorem dX11_smelt_4 : decode cX11_smelt 4 = .ok (.iload_n 1, 1) := by decide +kernel
theorem dX11_smelt_5 : decode cX11_smelt 5 = .ok (.invokevirtual 143, 3) := by decide +kernel
theorem dX11_smelt_8 : decode cX11_smelt 8 = .ok (.ifCond .eq 14, 3) := by decide +kernel
theorem dX11_smelt_11 : decode cX11_smelt 11 = .ok (.aload_n 0, 1) := by decide +kernel
theorem dX11_smelt_12 : decode cX11_smelt 12 = .ok (.getfield 68, 3) := by decide +kernel
theorem dX11_smelt_15 : decode cX11_smelt 15 = .ok (.iload_n 1, 1) := by decide +kernel
theorem dX11_smelt_16 : decode cX11_smelt 16 = .ok (.invokevirtual 189, 3) := by decide +kernel
theorem dX11_smelt_19 : decode cX11_smelt 19 = .ok (.goto 4, 3) := by decide +kernel
theorem dX11_smelt_22 : decode cX11_smelt 22 = .ok (.iconst (-1), 1) := by decide +kernel
theorem dX11_smelt_23 : decode cX11_smelt 23 = .ok (.ireturn, 1) := by decide +kernel
theorem dX11_shut_0 : decode cX11_shut 0 = .ok (.iload_n 1, 1) := by decide +kernel
theorem dX11_shut_1 : decode cX11_shut 1 = .ok (.iconst 0, 1) := by decide +kernel
theorem dX11_shut_2 : decode cX11_shut 2 = .ok (.iconst 1, 1) := by decide +kernel
theorem dX11_shut_3 : decode cX11_shut 3 = .ok (.invokestatic 99, 3) := by decide +kernel
theorem dX11_shut_6 : decode cX11_shut 6 = .ok (.ifCond .ne 5, 3) := by decide +kernel
theorem dX11_shut_9 : decode cX11_shut 9 = .ok (.iconst (-1), 1) := by decide +kernel
theorem dX11_shut_10 : decode cX11_shut 10 = .ok (.ireturn, 1) := by decide +kernel
theorem dX11_shut_11 : decode cX11_shut 11 = .ok (.aload_n 0, 1) := by decide +kernel
theorem dX11_shut_12 : decode cX11_shut 12 = .ok (.getfield 68, 3) := by decide +kernel
theorem dX11_shut_15 : decode cX11_shut 15 = .ok (.invokevirtual 192, 3) := by decide +kernel
theorem dX11_shut_18 : decode cX11_shut 18 = .ok (.istore_n 2, 1) := by decide +kernel
theorem dX11_shut_19 : decode cX11_shut 19 = .ok (.iload_n 1, 1) := by decide +kernel
theorem dX11_shut_20 : decode cX11_shut 20 = .ok (.ifCond .ne 10, 3) := by decide +kernel
theorem dX11_shut_23 : decode cX11_shut 23 = .ok (.iload_n 2, 1) := by decide +kernel
theorem dX11_shut_24 : decode cX11_shut 24 = .ok (.invokestatic 195, 3) := by decide +kernel
theorem dX11_shut_27 : decode cX11_shut 27 = .ok (.goto 4, 3) := by decide +kernel
theorem dX11_shut_30 : decode cX11_shut 30 = .ok (.iload_n 2, 1) := by decide +kernel
theorem dX11_shut_31 : decode cX11_shut 31 = .ok (.ireturn, 1) := by decide +kernel
theorem dX11_lane_0 : decode cX11_lane 0 = .ok (.iload_n 1, 1) := by decide +kernel
theorem dX11_lane_1 : decode cX11_lane 1 = .ok (.iconst 0, 1) := by decide +kernel
theorem dX11_lane_2 : decode cX11_lane 2 = .ok (.bipush 60, 2) := by decide +kernel
theorem dX11_lane_4 : decode cX11_lane 4 = .ok (.invokestatic 99, 3) := by decide +kernel
theorem dX11_lane_7 : decode cX11_lane 7 = .ok (.ifCond .eq 13, 3) := by decide +kernel
theorem dX11_lane_10 : decode cX11_lane 10 = .ok (.iload_n 2, 1) := by decide +kernel
theorem dX11_lane_11 : decode cX11_lane 11 = .ok (.iconst 0, 1) := by decide +kernel
theorem dX11_lane_12 : decode cX11_lane 12 = .ok (.bipush 8, 2) := by decide +kernel
theorem dX11_lane_14 : decode cX11_lane 14 = .ok (.invokestatic 99, 3) := by decide +kernel
theorem dX11_lane_17 : decode cX11_lane 17 = .ok (.ifCond .ne 5, 3) := by decide +kernel
theorem dX11_lane_20 : decode cX11_lane 20 = .ok (.iconst (-1), 1) := by decide +kernel
theorem dX11_lane_21 : decode cX11_lane 21 = .ok (.ireturn, 1) := by decide +kernel
theorem dX11_lane_22 : decode cX11_lane 22 = .ok (.aload_n 0, 1) := by decide +kernel
theorem dX11_lane_23 : decode cX11_lane 23 = .ok (.getfield 77, 3) := by decide +kernel
theorem dX11_lane_26 : decode cX11_lane 26 = .ok (.iload_n 1, 1) := by decide +kernel
theorem dX11_lane_27 : decode cX11_lane 27 = .ok (.invokevirtual 200, 3) := by decide +kernel
theorem dX11_lane_30 : decode cX11_lane 30 = .ok (.astore_n 3, 1) := by decide +kernel
theorem dX11_lane_31 : decode cX11_lane 31 = .ok (.iload_n 2, 1) := by decide +kernel
theorem dX11_lane_32 : decode cX11_lane 32 = .ok (.tableswitch 73 4 8 #[36, 41, 46, 51, 56], 36) := by decide +kernel
theorem dX11_lane_68 : decode cX11_lane 68 = .ok (.aload_n 3, 1) := by decide +kernel
theorem dX11_lane_69 : decode cX11_lane 69 = .ok (.invokevirtual 204, 3) := by decide +kernel
theorem dX11_lane_72 : decode cX11_lane 72 = .ok (.ireturn, 1) := by decide +kernel
theorem dX11_lane_73 : decode cX11_lane 73 = .ok (.aload_n 3, 1) := by decide +kernel
theorem dX11_lane_74 : decode cX11_lane 74 = .ok (.getfield 207, 3) := by decide +kernel
theorem dX11_lane_77 : decode cX11_lane 77 = .ok (.ireturn, 1) := by decide +kernel
theorem dX11_lane_78 : decode cX11_lane 78 = .ok (.aload_n 3, 1) := by decide +kernel
theorem dX11_lane_79 : decode cX11_lane 79 = .ok (.invokevirtual 210, 3) := by decide +kernel
theorem dX11_lane_82 : decode cX11_lane 82 = .ok (.ireturn, 1) := by decide +kernel
theorem dX11_lane_83 : decode cX11_lane 83 = .ok (.aload_n 3, 1) := by decide +kernel
theorem dX11_lane_84 : decode cX11_lane 84 = .ok (.invokevirtual 213, 3) := by decide +kernel
theorem dX11_lane_87 : decode cX11_lane 87 = .ok (.ireturn, 1) := by decide +kernel
theorem dX11_lane_88 : decode cX11_lane 88 = .ok (.aload_n 3, 1) := by decide +kernel
theorem dX11_lane_89 : decode cX11_lane 89 = .ok (.getfield 216, 3) := by decide +kernel
theorem dX11_lane_92 : decode cX11_lane 92 = .ok (.iconst 3, 1) := by decide +kernel
theorem dX11_lane_93 : decode cX11_lane 93 = .ok (.iaload, 1) := by decide +kernel
theorem dX11_lane_94 : decode cX11_lane 94 = .ok (.aload_n 0, 1) := by decide +kernel
theorem dX11_lane_95 : decode cX11_lane 95 = .ok (.getfield 32, 3) := by decide +kernel
theorem dX11_lane_98 : decode cX11_lane 98 = .ok (.getfield 216, 3) := by decide +kernel
theorem dX11_lane_101 : decode cX11_lane 101 = .ok (.iconst 3, 1) := by decide +kernel
theorem dX11_lane_102 : decode cX11_lane 102 = .ok (.iaload, 1) := by decide +kernel
theorem dX11_lane_103 : decode cX11_lane 103 = .ok (.isub, 1) := by decide +kernel
theorem dX11_lane_104 : decode cX11_lane 104 = .ok (.ireturn, 1) := by decide +kernel
theorem dX11_lane_105 : decode cX11_lane 105 = .ok (.aload_n 3, 1) := by decide +kernel
theorem dX11_lane_106 : decode cX11_lane 106 = .ok (.iload_n 2, 1) := by decide +kernel
theorem dX11_lane_107 : decode cX11_lane 107 = .ok (.invokevirtual 219, 3) := by decide +kernel
theorem dX11_lane_110 : decode cX11_lane 110 = .ok (.ireturn, 1) := by decide +kernel
theorem dX11_when_0 : decode cX11_when 0 = .ok (.aload_n 0, 1) := by decide +kernel
theorem dX11_when_1 : decode cX11_when 1 = .ok (.getfield 26, 3) := by decide +kernel
theorem dX11_when_4 : decode cX11_when 4 = .ok (.iload_n 1, 1) := by decide +kernel
theorem dX11_when_5 : decode cX11_when 5 = .ok (.invokevirtual 143, 3) := by decide +kernel
theorem dX11_when_8 : decode cX11_when 8 = .ok (.ifCond .eq 12, 3) := by decide +kernel
theorem dX11_when_11 : decode cX11_when 11 = .ok (.iload_n 2, 1) := by decide +kernel
theorem dX11_when_12 : decode cX11_when 12 = .ok (.iconst 0, 1) := by decide +kernel
theorem dX11_when_13 : decode cX11_when 13 = .ok (.iconst 1, 1) := by decide +kernel
theorem dX11_when_14 : decode cX11_when 14 = .ok (.invokestatic 99, 3) := by decide +kernel
theorem dX11_when_17 : decode cX11_when 17 = .ok (.ifCond .ne 5, 3) := by decide +kernel
theorem dX11_when_20 : decode cX11_when 20 = .ok (.iconst (-1), 1) := by decide +kernel
theorem dX11_when_21 : decode cX11_when 21 = .ok (.ireturn, 1) := by decide +kernel
theorem dX11_when_22 : decode cX11_when 22 = .ok (.aload_n 0, 1) := by decide +kernel
theorem dX11_when_23 : decode cX11_when 23 = .ok (.getfield 77, 3) := by decide +kernel
theorem dX11_when_26 : decode cX11_when 26 = .ok (.iload_n 1, 1) := by decide +kernel
theorem dX11_when_27 : decode cX11_when 27 = .ok (.iload_n 2, 1) := by decide +kernel
theorem dX11_when_28 : decode cX11_when 28 = .ok (.ifCond .ne 7, 3) := by decide +kernel
theorem dX11_when_31 : decode cX11_when 31 = .ok (.iconst 2, 1) := by decide +kernel
theorem dX11_when_32 : decode cX11_when 32 = .ok (.goto 4, 3) := by decide +kernel
theorem dX11_when_35 : decode cX11_when 35 = .ok (.iconst 3, 1) := by decide +kernel
theorem dX11_when_36 : decode cX11_when 36 = .ok (.invokevirtual 222, 3) := by decide +kernel
theorem dX11_when_39 : decode cX11_when 39 = .ok (.ireturn, 1) := by decide +kernel
theorem dX11_move_0 : decode cX11_move 0 = .ok (.iload_n 1, 1) := by decide +kernel
theorem dX11_move_1 : decode cX11_move 1 = .ok (.iconst 0, 1) := by decide +kernel
theorem dX11_move_2 : decode cX11_move 2 = .ok (.bipush 40, 2) := by decide +kernel
theorem dX11_move_4 : decode cX11_move 4 = .ok (.invokestatic 99, 3) := by decide +kernel
theorem dX11_move_7 : decode cX11_move 7 = .ok (.ifCond .eq 12, 3) := by decide +kernel
theorem dX11_move_10 : decode cX11_move 10 = .ok (.iload_n 2, 1) := by decide +kernel
theorem dX11_move_11 : decode cX11_move 11 = .ok (.iconst 0, 1) := by decide +kernel
theorem dX11_move_12 : decode cX11_move 12 = .ok (.iconst 1, 1) := by decide +kernel
theorem dX11_move_13 : decode cX11_move 13 = .ok (.invokestatic 99, 3) := by decide +kernel
theorem dX11_move_16 : decode cX11_move 16 = .ok (.ifCond .ne 5, 3) := by decide +kernel
theorem dX11_move_19 : decode cX11_move 19 = .ok (.iconst (-1), 1) := by decide +kernel
theorem dX11_move_20 : decode cX11_move 20 = .ok (.ireturn, 1) := by decide +kernel
theorem dX11_move_21 : decode cX11_move 21 = .ok (.aload_n 0, 1) := by decide +kernel
theorem dX11_move_22 : decode cX11_move 22 = .ok (.getfield 77, 3) := by decide +kernel
theorem dX11_move_25 : decode cX11_move 25 = .ok (.iload_n 1, 1) := by decide +kernel
theorem dX11_move_26 : decode cX11_move 26 = .ok (.invokevirtual 225, 3) := by decide +kernel
theorem dX11_move_29 : decode cX11_move 29 = .ok (.iload_n 2, 1) := by decide +kernel
theorem dX11_move_30 : decode cX11_move 30 = .ok (.ifCond .ne 13, 3) := by decide +kernel
theorem dX11_move_33 : decode cX11_move 33 = .ok (.aload_n 0, 1) := by decide +kernel
theorem dX11_move_34 : decode cX11_move 34 = .ok (.getfield 77, 3) := by decide +kernel
theorem dX11_move_37 : decode cX11_move 37 = .ok (.getfield 229, 3) := by decide +kernel
theorem dX11_move_40 : decode cX11_move 40 = .ok (.goto 10, 3) := by decide +kernel
theorem dX11_move_43 : decode cX11_move 43 = .ok (.aload_n 0, 1) := by decide +kernel
theorem dX11_move_44 : decode cX11_move 44 = .ok (.getfield 77, 3) := by decide +kernel
theorem dX11_move_47 : decode cX11_move 47 = .ok (.getfield 232, 3) := by decide +kernel
theorem dX11_move_50 : decode cX11_move 50 = .ok (.ireturn, 1) := by decide +kernel
theorem dX11_over_0 : decode cX11_over 0 = .ok (.iload_n 1, 1) := by decide +kernel
theorem dX11_over_1 : decode cX11_over 1 = .ok (.iconst 0, 1) := by decide +kernel
theorem dX11_over_2 : decode cX11_over 2 = .ok (.iconst 1, 1) := by decide +kernel
theorem dX11_over_3 : decode cX11_over 3 = .ok (.invokestatic 99, 3) := by decide +kernel
theorem dX11_over_6 : decode cX11_over 6 = .ok (.ifCond .eq 14, 3) := by decide +kernel
theorem dX11_over_9 : decode cX11_over 9 = .ok (.aload_n 0, 1) := by decide +kernel
theorem dX11_over_10 : decode cX11_over 10 = .ok (.getfield 84, 3) := by decide +kernel
theorem dX11_over_13 : decode cX11_over 13 = .ok (.iload_n 1, 1) := by decide +kernel
theorem dX11_over_14 : decode cX11_over 14 = .ok (.invokevirtual 235, 3) := by decide +kernel
theorem dX11_over_17 : decode cX11_over 17 = .ok (.goto 4, 3) := by decide +kernel
theorem dX11_over_20 : decode cX11_over 20 = .ok (.iconst (-1), 1) := by decide +kernel
theorem dX11_over_21 : decode cX11_over 21 = .ok (.ireturn, 1) := by decide +kernel
theorem dX11_date_0 : decode cX11_date 0 = .ok (.aload_n 0, 1) := by decide +kernel
theorem dX11_date_1 : decode cX11_date 1 = .ok (.getfield 26, 3) := by decide +kernel
theorem dX11_date_4 : decode cX11_date 4 = .ok (.iload_n 1, 1) := by decide +kernel
theorem dX11_date_5 : decode cX11_date 5 = .ok (.invokevirtual 143, 3) := by decide +kernel
theorem dX11_date_8 : decode cX11_date 8 = .ok (.ifCond .eq 22, 3) := by decide +kernel
theorem dX11_date_11 : decode cX11_date 11 = .ok (.iload_n 2, 1) := by decide +kernel
theorem dX11_date_12 : decode cX11_date 12 = .ok (.iconst 0, 1) := by decide +kernel
theorem dX11_date_13 : decode cX11_date 13 = .ok (.bipush 60, 2) := by decide +kernel
theorem dX11_date_15 : decode cX11_date 15 = .ok (.invokestatic 99, 3) := by decide +kernel
theorem dX11_date_18 : decode cX11_date 18 = .ok (.ifCond .eq 12, 3) := by decide +kernel
theorem dX11_date_21 : decode cX11_date 21 = .ok (.iload_n 3, 1) := by decide +kernel
theorem dX11_date_22 : decode cX11_date 22 = .ok (.iconst 0, 1) := by decide +kernel
theorem dX11_date_23 : decode cX11_date 23 = .ok (.iconst 1, 1) := by decide +kernel
theorem dX11_date_24 : decode cX11_date 24 = .ok (.invokestatic 99, 3) := by decide +kernel
theorem dX11_date_27 : decode cX11_date 27 = .ok (.ifCond .ne 5, 3) := by decide +kernel
theorem dX11_date_30 : decode cX11_date 30 = .ok (.iconst (-1), 1) := by decide +kernel
theorem dX11_date_31 : decode cX11_date 31 = .ok (.ireturn, 1) := by decide +kernel
theorem dX11_date_32 : decode cX11_date 32 = .ok (.aload_n 0, 1) := by decide +kernel
theorem dX11_date_33 : decode cX11_date 33 = .ok (.getfield 77, 3) := by decide +kernel
theorem dX11_date_36 : decode cX11_date 36 = .ok (.iload_n 1, 1) := by decide +kernel
theorem dX11_date_37 : decode cX11_date 37 = .ok (.iload_n 2, 1) := by decide +kernel
theorem dX11_date_38 : decode cX11_date 38 = .ok (.invokevirtual 238, 3) := by decide +kernel
theorem dX11_date_41 : decode cX11_date 41 = .ok (.iload_n 3, 1) := by decide +kernel
theorem dX11_date_42 : decode cX11_date 42 = .ok (.ifCond .ne 13, 3) := by decide +kernel
theorem dX11_date_45 : decode cX11_date 45 = .ok (.aload_n 0, 1) := by decide +kernel
theorem dX11_date_46 : decode cX11_date 46 = .ok (.getfield 77, 3) := by decide +kernel
theorem dX11_date_49 : decode cX11_date 49 = .ok (.getfield 232, 3) := by decide +kernel
theorem dX11_date_52 : decode cX11_date 52 = .ok (.goto 10, 3) := by decide +kernel
theorem dX11_date_55 : decode cX11_date 55 = .ok (.aload_n 0, 1) := by decide +kernel
theorem dX11_date_56 : decode cX11_date 56 = .ok (.getfield 77, 3) := by decide +kernel
theorem dX11_date_59 : decode cX11_date 59 = .ok (.getfield 229, 3) := by decide +kernel
theorem dX11_date_62 : decode cX11_date 62 = .ok (.ireturn, 1) := by decide +kernel
theorem dX11_judge_0 : decode cX11_judge 0 = .ok (.aload_n 0, 1) := by decide +kernel
theorem dX11_judge_1 : decode cX11_judge 1 = .ok (.getfield 26, 3) := by decide +kernel
theorem dX11_judge_4 : decode cX11_judge 4 = .ok (.iload_n 2, 1) := by decide +kernel
theorem dX11_judge_5 : decode cX11_judge 5 = .ok (.invokevirtual 111, 3) := by decide +kernel
theorem dX11_judge_8 : decode cX11_judge 8 = .ok (.ifCond .ne 5, 3) := by decide +kernel
theorem dX11_judge_11 : decode cX11_judge 11 = .ok (.iconst (-1), 1) := by decide +kernel
theorem dX11_judge_12 : decode cX11_judge 12 = .ok (.ireturn, 1) := by decide +kernel
theorem dX11_judge_13 : decode cX11_judge 13 = .ok (.aload_n 0, 1) := by decide +kernel
theorem dX11_judge_14 : decode cX11_judge 14 = .ok (.getfield 95, 3) := by decide +kernel
theorem dX11_judge_17 : decode cX11_judge 17 = .ok (.iload_n 1, 1) := by decide +kernel
theorem dX11_judge_18 : decode cX11_judge 18 = .ok (.invokevirtual 122, 3) := by decide +kernel
theorem dX11_judge_21 : decode cX11_judge 21 = .ok (.istore_n 3, 1) := by decide +kernel
theorem dX11_judge_22 : decode cX11_judge 22 = .ok (.iload_n 3, 1) := by decide +kernel
theorem dX11_judge_23 : decode cX11_judge 23 = .ok (.ifCond .eq 7, 3) := by decide +kernel
theorem dX11_judge_26 : decode cX11_judge 26 = .ok (.iload_n 3, 1) := by decide +kernel
theorem dX11_judge_27 : decode cX11_judge 27 = .ok (.goto 12, 3) := by decide +kernel
theorem dX11_judge_30 : decode cX11_judge 30 = .ok (.aload_n 0, 1) := by decide +kernel
theorem dX11_judge_31 : decode cX11_judge 31 = .ok (.getfield 77, 3) := by decide +kernel
theorem dX11_judge_34 : decode cX11_judge 34 = .ok (.iload_n 1, 1) := by decide +kernel
theorem dX11_judge_35 : decode cX11_judge 35 = .ok (.iload_n 2, 1) := by decide +kernel
theorem dX11_judge_36 : decode cX11_judge 36 = .ok (.invokevirtual 242, 3) := by decide +kernel
theorem dX11_judge_39 : decode cX11_judge 39 = .ok (.ireturn, 1) := by decide +kernel
theorem dX11_fits_0 : decode cX11_fits 0 = .ok (.iload_n 2, 1) := by decide +kernel
theorem dX11_fits_1 : decode cX11_fits 1 = .ok (.ifCond .lt 12, 3) := by decide +kernel
theorem dX11_fits_4 : decode cX11_fits 4 = .ok (.iload_n 3, 1) := by decide +kernel
theorem dX11_fits_5 : decode cX11_fits 5 = .ok (.iconst 0, 1) := by decide +kernel
theorem dX11_fits_6 : decode cX11_fits 6 = .ok (.iconst 3, 1) := by decide +kernel
theorem dX11_fits_7 : decode cX11_fits 7 = .ok (.invokestatic 99, 3) := by decide +kernel
theorem dX11_fits_10 : decode cX11_fits 10 = .ok (.ifCond .ne 5, 3) := by decide +kernel
theorem dX11_fits_13 : decode cX11_fits 13 = .ok (.iconst (-1), 1) := by decide +kernel
theorem dX11_fits_14 : decode cX11_fits 14 = .ok (.ireturn, 1) := by decide +kernel
theorem dX11_fits_15 : decode cX11_fits 15 = .ok (.iload_n 2, 1) := by decide +kernel
theorem dX11_fits_16 : decode cX11_fits 16 = .ok (.bipush 10, 2) := by decide +kernel
theorem dX11_fits_18 : decode cX11_fits 18 = .ok (.idiv, 1) := by decide +kernel
theorem dX11_fits_19 : decode cX11_fits 19 = .ok (.istore 4, 2) := by decide +kernel
theorem dX11_fits_21 : decode cX11_fits 21 = .ok (.iload_n 2, 1) := by decide +kernel
theorem dX11_fits_22 : decode cX11_fits 22 = .ok (.bipush 10, 2) := by decide +kernel
theorem dX11_fits_24 : decode cX11_fits 24 = .ok (.irem, 1) := by decide +kernel
theorem dX11_fits_25 : decode cX11_fits 25 = .ok (.istore 5, 2) := by decide +kernel
theorem dX11_fits_27 : decode cX11_fits 27 = .ok (.aload_n 0, 1) := by decide +kernel
theorem dX11_fits_28 : decode cX11_fits 28 = .ok (.getfield 26, 3) := by decide +kernel
theorem dX11_fits_31 : decode cX11_fits 31 = .ok (.iload 4, 2) := by decide +kernel
theorem dX11_fits_33 : decode cX11_fits 33 = .ok (.invokevirtual 111, 3) := by decide +kernel
theorem dX11_fits_36 : decode cX11_fits 36 = .ok (.ifCond .eq 15, 3) := by decide +kernel
theorem dX11_fits_39 : decode cX11_fits 39 = .ok (.aload_n 0, 1) := by decide +kernel
theorem dX11_fits_40 : decode cX11_fits 40 = .ok (.getfield 26, 3) := by decide +kernel
theorem dX11_fits_43 : decode cX11_fits 43 = .ok (.iload 5, 2) := by decide +kernel
theorem dX11_fits_45 : decode cX11_fits 45 = .ok (.invokevirtual 143, 3) := by decide +kernel
theorem dX11_fits_48 : decode cX11_fits 48 = .ok (.ifCond .ne 5, 3) := by decide +kernel
theorem dX11_fits_51 : decode cX11_fits 51 = .ok (.iconst (-1), 1) := by decide +kernel
theorem dX11_fits_52 : decode cX11_fits 52 = .ok (.ireturn, 1) := by decide +kernel
theorem dX11_fits_53 : decode cX11_fits 53 = .ok (.aload_n 0, 1) := by decide +kernel
theorem dX11_fits_54 : decode cX11_fits 54 = .ok (.getfield 95, 3) := by decide +kernel
theorem dX11_fits_57 : decode cX11_fits 57 = .ok (.iload_n 1, 1) := by decide +kernel
theorem dX11_fits_58 : decode cX11_fits 58 = .ok (.invokevirtual 122, 3) := by decide +kernel
theorem dX11_fits_61 : decode cX11_fits 61 = .ok (.istore 6, 2) := by decide +kernel
theorem dX11_fits_63 : decode cX11_fits 63 = .ok (.iload 6, 2) := by decide +kernel
theorem dX11_fits_65 : decode cX11_fits 65 = .ok (.ifCond .eq 6, 3) := by decide +kernel
theorem dX11_fits_68 : decode cX11_fits 68 = .ok (.iload 6, 2) := by decide +kernel
theorem dX11_fits_70 : decode cX11_fits 70 = .ok (.ireturn, 1) := by decide +kernel
theorem dX11_fits_71 : decode cX11_fits 71 = .ok (.iload_n 3, 1) := by decide +kernel
theorem dX11_fits_72 : decode cX11_fits 72 = .ok (.iconst 2, 1) := by decide +kernel
theorem dX11_fits_73 : decode cX11_fits 73 = .ok (.if_icmp .ge 27, 3) := by decide +kernel
theorem dX11_fits_76 : decode cX11_fits 76 = .ok (.aload_n 0, 1) := by decide +kernel
theorem dX11_fits_77 : decode cX11_fits 77 = .ok (.getfield 77, 3) := by decide +kernel
theorem dX11_fits_80 : decode cX11_fits 80 = .ok (.iload_n 1, 1) := by decide +kernel
theorem dX11_fits_81 : decode cX11_fits 81 = .ok (.iload 4, 2) := by decide +kernel
theorem dX11_fits_83 : decode cX11_fits 83 = .ok (.iload 5, 2) := by decide +kernel
theorem dX11_fits_85 : decode cX11_fits 85 = .ok (.aload_n 0, 1) := by decide +kernel
theorem dX11_fits_86 : decode cX11_fits 86 = .ok (.getfield 26, 3) := by decide +kernel
theorem dX11_fits_89 : decode cX11_fits 89 = .ok (.getfield 245, 3) := by decide +kernel
theorem dX11_fits_92 : decode cX11_fits 92 = .ok (.bipush 99, 2) := by decide +kernel
theorem dX11_fits_94 : decode cX11_fits 94 = .ok (.invokevirtual 248, 3) := by decide +kernel
theorem dX11_fits_97 : decode cX11_fits 97 = .ok (.goto 24, 3) := by decide +kernel
theorem dX11_fits_100 : decode cX11_fits 100 = .ok (.aload_n 0, 1) := by decide +kernel
theorem dX11_fits_101 : decode cX11_fits 101 = .ok (.getfield 77, 3) := by decide +kernel
theorem dX11_fits_104 : decode cX11_fits 104 = .ok (.iload_n 1, 1) := by decide +kernel
theorem dX11_fits_105 : decode cX11_fits 105 = .ok (.iload 4, 2) := by decide +kernel
theorem dX11_fits_107 : decode cX11_fits 107 = .ok (.iload 5, 2) := by decide +kernel
theorem dX11_fits_109 : decode cX11_fits 109 = .ok (.aload_n 0, 1) := by decide +kernel
theorem dX11_fits_110 : decode cX11_fits 110 = .ok (.getfield 26, 3) := by decide +kernel
theorem dX11_fits_113 : decode cX11_fits 113 = .ok (.getfield 252, 3) := by decide +kernel
theorem dX11_fits_116 : decode cX11_fits 116 = .ok (.bipush 40, 2) := by decide +kernel
theorem dX11_fits_118 : decode cX11_fits 118 = .ok (.invokevirtual 248, 3) := by decide +kernel
theorem dX11_fits_121 : decode cX11_fits 121 = .ok (.iload_n 3, 1) := by decide +kernel
theorem dX11_fits_122 : decode cX11_fits 122 = .ok (.iconst 2, 1) := by decide +kernel
theorem dX11_fits_123 : decode cX11_fits 123 = .ok (.irem, 1) := by decide +kernel
theorem dX11_fits_124 : decode cX11_fits 124 = .ok (.ifCond .ne 13, 3) := by decide +kernel
theorem dX11_fits_127 : decode cX11_fits 127 = .ok (.aload_n 0, 1) := by decide +kernel
theorem dX11_fits_128 : decode cX11_fits 128 = .ok (.getfield 77, 3) := by decide +kernel
theorem dX11_fits_131 : decode cX11_fits 131 = .ok (.getfield 229, 3) := by decide +kernel
theorem dX11_fits_134 : decode cX11_fits 134 = .ok (.goto 10, 3) := by decide +kernel
theorem dX11_fits_137 : decode cX11_fits 137 = .ok (.aload_n 0, 1) := by decide +kernel
theorem dX11_fits_138 : decode cX11_fits 138 = .ok (.getfield 77, 3) := by decide +kernel
theorem dX11_fits_141 : decode cX11_fits 141 = .ok (.getfield 232, 3) := by decide +kernel
theorem dX11_fits_144 : decode cX11_fits 144 = .ok (.ireturn, 1) := by decide +kernel
theorem dX11_who_0 : decode cX11_who 0 = .ok (.aload_n 0, 1) := by decide +kernel
theorem dX11_who_1 : decode cX11_who 1 = .ok (.getfield 95, 3) := by decide +kernel
theorem dX11_who_4 : decode cX11_who 4 = .ok (.iload_n 1, 1) := by decide +kernel
theorem dX11_who_5 : decode cX11_who 5 = .ok (.invokevirtual 122, 3) := by decide +kernel
theorem dX11_who_8 : decode cX11_who 8 = .ok (.istore_n 2, 1) := by decide +kernel
theorem dX11_who_9 : decode cX11_who 9 = .ok (.iload_n 2, 1) := by decide +kernel
theorem dX11_who_10 : decode cX11_who 10 = .ok (.ifCond .eq 5, 3) := by decide +kernel
theorem dX11_who_13 : decode cX11_who 13 = .ok (.iload_n 2, 1) := by decide +kernel
theorem dX11_who_14 : decode cX11_who 14 = .ok (.ireturn, 1) := by decide +kernel
theorem dX11_who_15 : decode cX11_who 15 = .ok (.iconst 0, 1) := by decide +kernel
theorem dX11_who_16 : decode cX11_who 16 = .ok (.istore_n 3, 1) := by decide +kernel
theorem dX11_who_17 : decode cX11_who 17 = .ok (.iconst 0, 1) := by decide +kernel
theorem dX11_who_18 : decode cX11_who 18 = .ok (.istore 4, 2) := by decide +kernel
theorem dX11_who_20 : decode cX11_who 20 = .ok (.iload 4, 2) := by decide +kernel
theorem dX11_who_22 : decode cX11_who 22 = .ok (.aload_n 0, 1) := by decide +kernel
theorem dX11_who_23 : decode cX11_who 23 = .ok (.getfield 26, 3) := by decide +kernel
theorem dX11_who_26 : decode cX11_who 26 = .ok (.getfield 103, 3) := by decide +kernel
theorem dX11_who_29 : decode cX11_who 29 = .ok (.if_icmp .ge 31, 3) := by decide +kernel
theorem dX11_who_32 : decode cX11_who 32 = .ok (.aload_n 0, 1) := by decide +kernel
theorem dX11_who_33 : decode cX11_who 33 = .ok (.getfield 77, 3) := by decide +kernel
theorem dX11_who_36 : decode cX11_who 36 = .ok (.iload_n 1, 1) := by decide +kernel
theorem dX11_who_37 : decode cX11_who 37 = .ok (.iload 4, 2) := by decide +kernel
theorem dX11_who_39 : decode cX11_who 39 = .ok (.invokevirtual 242, 3) := by decide +kernel
theorem dX11_who_42 : decode cX11_who 42 = .ok (.bipush (-2), 2) := by decide +kernel
theorem dX11_who_44 : decode cX11_who 44 = .ok (.if_icmp .ne 10, 3) := by decide +kernel
theorem dX11_who_47 : decode cX11_who 47 = .ok (.iload_n 3, 1) := by decide +kernel
theorem dX11_who_48 : decode cX11_who 48 = .ok (.iconst 1, 1) := by decide +kernel
theorem dX11_who_49 : decode cX11_who 49 = .ok (.iload 4, 2) := by decide +kernel
theorem dX11_who_51 : decode cX11_who 51 = .ok (.ishl, 1) := by decide +kernel
theorem dX11_who_52 : decode cX11_who 52 = .ok (.ior, 1) := by decide +kernel
theorem dX11_who_53 : decode cX11_who 53 = .ok (.istore_n 3, 1) := by decide +kernel
theorem dX11_who_54 : decode cX11_who 54 = .ok (.iinc 4 1, 3) := by decide +kernel
theorem dX11_who_57 : decode cX11_who 57 = .ok (.goto (-37), 3) := by decide +kernel
theorem dX11_who_60 : decode cX11_who 60 = .ok (.iload_n 3, 1) := by decide +kernel
theorem dX11_who_61 : decode cX11_who 61 = .ok (.ireturn, 1) := by decide +kernel
theorem dX11_share_0 : decode cX11_share 0 = .ok (.aload_n 0, 1) := by decide +kernel
theorem dX11_share_1 : decode cX11_share 1 = .ok (.getfield 26, 3) := by decide +kernel
theorem dX11_share_4 : decode cX11_share 4 = .ok (.iload_n 1, 1) := by decide +kernel
theorem dX11_share_5 : decode cX11_share 5 = .ok (.invokevirtual 111, 3) := by decide +kernel
theorem dX11_share_8 : decode cX11_share 8 = .ok (.ifCond .eq 14, 3) := by decide +kernel
theorem dX11_share_11 : decode cX11_share 11 = .ok (.iload_n 2, 1) := by decide +kernel
theorem dX11_share_12 : decode cX11_share 12 = .ok (.iconst 0, 1) := by decide +kernel
theorem dX11_share_13 : decode cX11_share 13 = .ok (.sipush 9999, 3) := by decide +kernel
theorem dX11_share_16 : decode cX11_share 16 = .ok (.invokestatic 99, 3) := by decide +kernel
theorem dX11_share_19 : decode cX11_share 19 = .ok (.ifCond .ne 5, 3) := by decide +kernel
theorem dX11_share_22 : decode cX11_share 22 = .ok (.iconst (-1), 1) := by decide +kernel
theorem dX11_share_23 : decode cX11_share 23 = .ok (.ireturn, 1) := by decide +kernel
theorem dX11_share_24 : decode cX11_share 24 = .ok (.aload_n 0, 1) := by decide +kernel
theorem dX11_share_25 : decode cX11_share 25 = .ok (.getfield 32, 3) := by decide +kernel
theorem dX11_share_28 : decode cX11_share 28 = .ok (.invokevirtual 210, 3) := by decide +kernel
theorem dX11_share_31 : decode cX11_share 31 = .ok (.istore_n 3, 1) := by decide +kernel
theorem dX11_share_32 : decode cX11_share 32 = .ok (.iload_n 3, 1) := by decide +kernel
theorem dX11_share_33 : decode cX11_share 33 = .ok (.ifCond .le 18, 3) := by decide +kernel
theorem dX11_share_36 : decode cX11_share 36 = .ok (.iload_n 2, 1) := by decide +kernel
theorem dX11_share_37 : decode cX11_share 37 = .ok (.aload_n 0, 1) := by decide +kernel
theorem dX11_share_38 : decode cX11_share 38 = .ok (.getfield 32, 3) := by decide +kernel
theorem dX11_share_41 : decode cX11_share 41 = .ok (.iload_n 1, 1) := by decide +kernel
theorem dX11_share_42 : decode cX11_share 42 = .ok (.invokevirtual 255, 3) := by decide +kernel
theorem dX11_share_45 : decode cX11_share 45 = .ok (.imul, 1) := by decide +kernel
theorem dX11_share_46 : decode cX11_share 46 = .ok (.iload_n 3, 1) := by decide +kernel
theorem dX11_share_47 : decode cX11_share 47 = .ok (.idiv, 1) := by decide +kernel
theorem dX11_share_48 : decode cX11_share 48 = .ok (.goto 4, 3) := by decide +kernel
theorem dX11_share_51 : decode cX11_share 51 = .ok (.iconst 0, 1) := by decide +kernel
theorem dX11_share_52 : decode cX11_share 52 = .ok (.ireturn, 1) := by decide +kernel
theorem dX11_near_0 : decode cX11_near 0 = .ok (.aload_n 0, 1) := by decide +kernel
theorem dX11_near_1 : decode cX11_near 1 = .ok (.getfield 26, 3) := by decide +kernel
theorem dX11_near_4 : decode cX11_near 4 = .ok (.iload_n 1, 1) := by decide +kernel
theorem dX11_near_5 : decode cX11_near 5 = .ok (.invokevirtual 111, 3) := by decide +kernel
theorem dX11_near_8 : decode cX11_near 8 = .ok (.ifCond .eq 14, 3) := by decide +kernel
theorem dX11_near_11 : decode cX11_near 11 = .ok (.aload_n 0, 1) := by decide +kernel
theorem dX11_near_12 : decode cX11_near 12 = .ok (.getfield 84, 3) := by decide +kernel
theorem dX11_near_15 : decode cX11_near 15 = .ok (.iload_n 1, 1) := by decide +kernel
theorem dX11_near_16 : decode cX11_near 16 = .ok (.invokevirtual 258, 3) := by decide +kernel
theorem dX11_near_19 : decode cX11_near 19 = .ok (.goto 4, 3) := by decide +kernel
theorem dX11_near_22 : decode cX11_near 22 = .ok (.iconst (-1), 1) := by decide +kernel
theorem dX11_near_23 : decode cX11_near 23 = .ok (.ireturn, 1) := by decide +kernel
theorem dX11_mates_0 : decode cX11_mates 0 = .ok (.iload_n 1, 1) := by decide +kernel
theorem dX11_mates_1 : decode cX11_mates 1 = .ok (.iconst 0, 1) := by decide +kernel
theorem dX11_mates_2 : decode cX11_mates 2 = .ok (.iconst 5, 1) := by decide +kernel
theorem dX11_mates_3 : decode cX11_mates 3 = .ok (.invokestatic 99, 3) := by decide +kernel
theorem dX11_mates_6 : decode cX11_mates 6 = .ok (.ifCond .eq 14, 3) := by decide +kernel
theorem dX11_mates_9 : decode cX11_mates 9 = .ok (.aload_n 0, 1) := by decide +kernel
theorem dX11_mates_10 : decode cX11_mates 10 = .ok (.getfield 84, 3) := by decide +kernel
theorem dX11_mates_13 : decode cX11_mates 13 = .ok (.iload_n 1, 1) := by decide +kernel
theorem dX11_mates_14 : decode cX11_mates 14 = .ok (.invokevirtual 261, 3) := by decide +kernel
theorem dX11_mates_17 : decode cX11_mates 17 = .ok (.goto 4, 3) := by decide +kernel
theorem dX11_mates_20 : decode cX11_mates 20 = .ok (.iconst (-1), 1) := by decide +kernel
theorem dX11_mates_21 : decode cX11_mates 21 = .ok (.ireturn, 1) := by decide +kernel
theorem dX11_byTurns_0 : decode cX11_byTurns 0 = .ok (.iload_n 1, 1) := by decide +kernel
theorem dX11_byTurns_1 : decode cX11_byTurns 1 = .ok (.iconst 1, 1) := by decide +kernel
theorem dX11_byTurns_2 : decode cX11_byTurns 2 = .ok (.iconst 4, 1) := by decide +kernel
theorem dX11_byTurns_3 : decode cX11_byTurns 3 = .ok (.invokestatic 99, 3) := by decide +kernel
theorem dX11_byTurns_6 : decode cX11_byTurns 6 = .ok (.ifCond .eq 12, 3) := by decide +kernel
theorem dX11_byTurns_9 : decode cX11_byTurns 9 = .ok (.iload_n 2, 1) := by decide +kernel
theorem dX11_byTurns_10 : decode cX11_byTurns 10 = .ok (.iconst 0, 1) := by decide +kernel
theorem dX11_byTurns_11 : decode cX11_byTurns 11 = .ok (.iconst 1, 1) := by decide +kernel
theorem dX11_byTurns_12 : decode cX11_byTurns 12 = .ok (.invokestatic 99, 3) := by decide +kernel
theorem dX11_byTurns_15 : decode cX11_byTurns 15 = .ok (.ifCond .ne 7, 3) := by decide +kernel
theorem dX11_byTurns_18 : decode cX11_byTurns 18 = .ok (.ldc_w 264, 3) := by decide +kernel
theorem dX11_byTurns_21 : decode cX11_byTurns 21 = .ok (.ireturn, 1) := by decide +kernel
theorem dX11_byTurns_22 : decode cX11_byTurns 22 = .ok (.aload_n 0, 1) := by decide +kernel
theorem dX11_byTurns_23 : decode cX11_byTurns 23 = .ok (.getfield 84, 3) := by decide +kernel
theorem dX11_byTurns_26 : decode cX11_byTurns 26 = .ok (.iload_n 1, 1) := by decide +kernel
theorem dX11_byTurns_27 : decode cX11_byTurns 27 = .ok (.invokevirtual 265, 3) := by decide +kernel
theorem dX11_byTurns_30 : decode cX11_byTurns 30 = .ok (.iload_n 2, 1) := by decide +kernel
theorem dX11_byTurns_31 : decode cX11_byTurns 31 = .ok (.ifCond .ne 13, 3) := by decide +kernel
theorem dX11_byTurns_34 : decode cX11_byTurns 34 = .ok (.aload_n 0, 1) := by decide +kernel
theorem dX11_byTurns_35 : decode cX11_byTurns 35 = .ok (.getfield 84, 3) := by decide +kernel
theorem dX11_byTurns_38 : decode cX11_byTurns 38 = .ok (.getfield 268, 3) := by decide +kernel
theorem dX11_byTurns_41 : decode cX11_byTurns 41 = .ok (.goto 10, 3) := by decide +kernel
theorem dX11_byTurns_44 : decode cX11_byTurns 44 = .ok (.aload_n 0, 1) := by decide +kernel
theorem dX11_byTurns_45 : decode cX11_byTurns 45 = .ok (.getfield 84, 3) := by decide +kernel
theorem dX11_byTurns_48 : decode cX11_byTurns 48 = .ok (.getfield 271, 3) := by decide +kernel
theorem dX11_byTurns_51 : decode cX11_byTurns 51 = .ok (.ireturn, 1) := by decide +kernel
theorem dX11_drawn_0 : decode cX11_drawn 0 = .ok (.iload_n 2, 1) := by decide +kernel
theorem dX11_drawn_1 : decode cX11_drawn 1 = .ok (.sipush 10000, 3) := by decide +kernel
theorem dX11_drawn_4 : decode cX11_drawn 4 = .ok (.idiv, 1) := by decide +kernel
theorem dX11_drawn_5 : decode cX11_drawn 5 = .ok (.istore 4, 2) := by decide +kernel
theorem dX11_drawn_7 : decode cX11_drawn 7 = .ok (.iload_n 2, 1) := by decide +kernel
theorem dX11_drawn_8 : decode cX11_drawn 8 = .ok (.bipush 100, 2) := by decide +kernel
theorem dX11_drawn_10 : decode cX11_drawn 10 = .ok (.idiv, 1) := by decide +kernel
theorem dX11_drawn_11 : decode cX11_drawn 11 = .ok (.bipush 100, 2) := by decide +kernel
theorem dX11_drawn_13 : decode cX11_drawn 13 = .ok (.irem, 1) := by decide +kernel
theorem dX11_drawn_14 : decode cX11_drawn 14 = .ok (.istore 5, 2) := by decide +kernel
theorem dX11_drawn_16 : decode cX11_drawn 16 = .ok (.iload_n 2, 1) := by decide +kernel
theorem dX11_drawn_17 : decode cX11_drawn 17 = .ok (.bipush 100, 2) := by decide +kernel
theorem dX11_drawn_19 : decode cX11_drawn 19 = .ok (.irem, 1) := by decide +kernel
theorem dX11_drawn_20 : decode cX11_drawn 20 = .ok (.istore 6, 2) := by decide +kernel
theorem dX11_drawn_22 : decode cX11_drawn 22 = .ok (.iload 4, 2) := by decide +kernel
theorem dX11_drawn_24 : decode cX11_drawn 24 = .ok (.iconst 1, 1) := by decide +kernel
theorem dX11_drawn_25 : decode cX11_drawn 25 = .ok (.bipush 30, 2) := by decide +kernel
theorem dX11_drawn_27 : decode cX11_drawn 27 = .ok (.invokestatic 99, 3) := by decide +kernel
theorem dX11_drawn_30 : decode cX11_drawn 30 = .ok (.ifCond .eq 25, 3) := by decide +kernel
theorem dX11_drawn_33 : decode cX11_drawn 33 = .ok (.iload 5, 2) := by decide +kernel
theorem dX11_drawn_35 : decode cX11_drawn 35 = .ok (.iconst 1, 1) := by decide +kernel
theorem dX11_drawn_36 : decode cX11_drawn 36 = .ok (.bipush 40, 2) := by decide +kernel
theorem dX11_drawn_38 : decode cX11_drawn 38 = .ok (.invokestatic 99, 3) := by decide +kernel
theorem dX11_drawn_41 : decode cX11_drawn 41 = .ok (.ifCond .eq 14, 3) := by decide +kernel
theorem dX11_drawn_44 : decode cX11_drawn 44 = .ok (.iload 6, 2) := by decide +kernel
theorem dX11_drawn_46 : decode cX11_drawn 46 = .ok (.iconst 0, 1) := by decide +kernel
theorem dX11_drawn_47 : decode cX11_drawn 47 = .ok (.bipush 12, 2) := by decide +kernel
theorem dX11_drawn_49 : decode cX11_drawn 49 = .ok (.invokestatic 99, 3) := by decide +kernel
theorem dX11_drawn_52 : decode cX11_drawn 52 = .ok (.ifCond .ne 5, 3) := by decide +kernel
theorem dX11_drawn_55 : decode cX11_drawn 55 = .ok (.iconst (-1), 1) := by decide +kernel
theorem dX11_drawn_56 : decode cX11_drawn 56 = .ok (.ireturn, 1) := by decide +kernel
theorem dX11_drawn_57 : decode cX11_drawn 57 = .ok (.iload_n 3, 1) := by decide +kernel
theorem dX11_drawn_58 : decode cX11_drawn 58 = .ok (.iconst (-1), 1) := by decide +kernel
theorem dX11_drawn_59 : decode cX11_drawn 59 = .ok (.if_icmp .eq 16, 3) := by decide +kernel
theorem dX11_drawn_62 : decode cX11_drawn 62 = .ok (.aload_n 0, 1) := by decide +kernel
theorem dX11_drawn_63 : decode cX11_drawn 63 = .ok (.getfield 26, 3) := by decide +kernel
theorem dX11_drawn_66 : decode cX11_drawn 66 = .ok (.iload_n 3, 1) := by decide +kernel
theorem dX11_drawn_67 : decode cX11_drawn 67 = .ok (.invokevirtual 143, 3) := by decide +kernel
theorem dX11_drawn_70 : decode cX11_drawn 70 = .ok (.ifCond .ne 5, 3) := by decide +kernel
theorem dX11_drawn_73 : decode cX11_drawn 73 = .ok (.iconst (-1), 1) := by decide +kernel
theorem dX11_drawn_74 : decode cX11_drawn 74 = .ok (.ireturn, 1) := by decide +kernel
theorem dX11_drawn_75 : decode cX11_drawn 75 = .ok (.aload_n 0, 1) := by decide +kernel
theorem dX11_drawn_76 : decode cX11_drawn 76 = .ok (.getfield 77, 3) := by decide +kernel
theorem dX11_drawn_79 : decode cX11_drawn 79 = .ok (.iload_n 1, 1) := by decide +kernel
theorem dX11_drawn_80 : decode cX11_drawn 80 = .ok (.iload 4, 2) := by decide +kernel
theorem dX11_drawn_82 : decode cX11_drawn 82 = .ok (.iload 5, 2) := by decide +kernel
theorem dX11_drawn_84 : decode cX11_drawn 84 = .ok (.iload 6, 2) := by decide +kernel
theorem dX11_drawn_86 : decode cX11_drawn 86 = .ok (.iload_n 3, 1) := by decide +kernel
theorem dX11_drawn_87 : decode cX11_drawn 87 = .ok (.invokevirtual 274, 3) := by decide +kernel
theorem dX11_drawn_90 : decode cX11_drawn 90 = .ok (.ireturn, 1) := by decide +kernel
theorem dX11_moves_0 : decode cX11_moves 0 = .ok (.aload_n 0, 1) := by decide +kernel
theorem dX11_moves_1 : decode cX11_moves 1 = .ok (.getfield 26, 3) := by decide +kernel
theorem dX11_moves_4 : decode cX11_moves 4 = .ok (.iload_n 1, 1) := by decide +kernel
theorem dX11_moves_5 : decode cX11_moves 5 = .ok (.invokevirtual 111, 3) := by decide +kernel
theorem dX11_moves_8 : decode cX11_moves 8 = .ok (.ifCond .eq 13, 3) := by decide +kernel
theorem dX11_moves_11 : decode cX11_moves 11 = .ok (.iload_n 2, 1) := by decide +kernel
theorem dX11_moves_12 : decode cX11_moves 12 = .ok (.iconst 0, 1) := by decide +kernel
theorem dX11_moves_13 : decode cX11_moves 13 = .ok (.bipush 11, 2) := by decide +kernel
theorem dX11_moves_15 : decode cX11_moves 15 = .ok (.invokestatic 99, 3) := by decide +kernel
theorem dX11_moves_18 : decode cX11_moves 18 = .ok (.ifCond .ne 5, 3) := by decide +kernel
theorem dX11_moves_21 : decode cX11_moves 21 = .ok (.iconst (-1), 1) := by decide +kernel
theorem dX11_moves_22 : decode cX11_moves 22 = .ok (.ireturn, 1) := by decide +kernel
theorem dX11_moves_23 : decode cX11_moves 23 = .ok (.aload_n 0, 1) := by decide +kernel
theorem dX11_moves_24 : decode cX11_moves 24 = .ok (.getfield 32, 3) := by decide +kernel
theorem dX11_moves_27 : decode cX11_moves 27 = .ok (.getfield 107, 3) := by decide +kernel
theorem dX11_moves_30 : decode cX11_moves 30 = .ok (.iload_n 1, 1) := by decide +kernel
theorem dX11_moves_31 : decode cX11_moves 31 = .ok (.iaload, 1) := by decide +kernel
theorem dX11_moves_32 : decode cX11_moves 32 = .ok (.istore_n 3, 1) := by decide +kernel
theorem dX11_moves_33 : decode cX11_moves 33 = .ok (.aload_n 0, 1) := by decide +kernel
theorem dX11_moves_34 : decode cX11_moves 34 = .ok (.getfield 32, 3) := by decide +kernel
theorem dX11_moves_37 : decode cX11_moves 37 = .ok (.getfield 107, 3) := by decide +kernel
theorem dX11_moves_40 : decode cX11_moves 40 = .ok (.iload_n 1, 1) := by decide +kernel
theorem dX11_moves_41 : decode cX11_moves 41 = .ok (.iload_n 2, 1) := by decide +kernel
theorem dX11_moves_42 : decode cX11_moves 42 = .ok (.iastore, 1) := by decide +kernel
theorem dX11_moves_43 : decode cX11_moves 43 = .ok (.aload_n 0, 1) := by decide +kernel
theorem dX11_moves_44 : decode cX11_moves 44 = .ok (.getfield 32, 3) := by decide +kernel
theorem dX11_moves_47 : decode cX11_moves 47 = .ok (.getfield 216, 3) := by decide +kernel
theorem dX11_moves_50 : decode cX11_moves 50 = .ok (.iconst 0, 1) := by decide +kernel
theorem dX11_moves_51 : decode cX11_moves 51 = .ok (.dup2, 1) := by decide +kernel
theorem dX11_moves_52 : decode cX11_moves 52 = .ok (.iaload, 1) := by decide +kernel
theorem dX11_moves_53 : decode cX11_moves 53 = .ok (.iconst 1, 1) := by decide +kernel
theorem dX11_moves_54 : decode cX11_moves 54 = .ok (.iadd, 1) := by decide +kernel
theorem dX11_moves_55 : decode cX11_moves 55 = .ok (.iastore, 1) := by decide +kernel
theorem dX11_moves_56 : decode cX11_moves 56 = .ok (.iload_n 3, 1) := by decide +kernel
theorem dX11_moves_57 : decode cX11_moves 57 = .ok (.ireturn, 1) := by decide +kernel
theorem dX11_day_0 : decode cX11_day 0 = .ok (.aload_n 0, 1) := by decide +kernel
theorem dX11_day_1 : decode cX11_day 1 = .ok (.getfield 32, 3) := by decide +kernel
theorem dX11_day_4 : decode cX11_day 4 = .ok (.invokevirtual 278, 3) := by decide +kernel
theorem dX11_day_7 : decode cX11_day 7 = .ok (.aload_n 0, 1) := by decide +kernel
theorem dX11_day_8 : decode cX11_day 8 = .ok (.getfield 32, 3) := by decide +kernel
theorem dX11_day_11 : decode cX11_day 11 = .ok (.invokevirtual 204, 3) := by decide +kernel
theorem dX11_day_14 : decode cX11_day 14 = .ok (.ireturn, 1) := by decide +kernel
theorem dX11_inspect_0 : decode cX11_inspect 0 = .ok (.aload_n 0, 1) := by decide +kernel
theorem dX11_inspect_1 : decode cX11_inspect 1 = .ok (.getfield 68, 3) := by decide +kernel
theorem dX11_inspect_4 : decode cX11_inspect 4 = .ok (.invokevirtual 281, 3) := by decide +kernel
theorem dX11_inspect_7 : decode cX11_inspect 7 = .ok (.istore_n 1, 1) := by decide +kernel
theorem dX11_inspect_8 : decode cX11_inspect 8 = .ok (.aload_n 0, 1) := by decide +kernel
theorem dX11_inspect_9 : decode cX11_inspect 9 = .ok (.getfield 32, 3) := by decide +kernel
theorem dX11_inspect_12 : decode cX11_inspect 12 = .ok (.getfield 216, 3) := by decide +kernel
theorem dX11_inspect_15 : decode cX11_inspect 15 = .ok (.iconst 4, 1) := by decide +kernel
theorem dX11_inspect_16 : decode cX11_inspect 16 = .ok (.dup2, 1) := by decide +kernel
theorem dX11_inspect_17 : decode cX11_inspect 17 = .ok (.iaload, 1) := by decide +kernel
theorem dX11_inspect_18 : decode cX11_inspect 18 = .ok (.iload_n 1, 1) := by decide +kernel
theorem dX11_inspect_19 : decode cX11_inspect 19 = .ok (.iadd, 1) := by decide +kernel
theorem dX11_inspect_20 : decode cX11_inspect 20 = .ok (.iastore, 1) := by decide +kernel
theorem dX11_inspect_21 : decode cX11_inspect 21 = .ok (.iload_n 1, 1) := by decide +kernel
theorem dX11_inspect_22 : decode cX11_inspect 22 = .ok (.ireturn, 1) := by decide +kernel
theorem dX11_led_0 : decode cX11_led 0 = .ok (.iload_n 1, 1) := by decide +kernel
theorem dX11_led_1 : decode cX11_led 1 = .ok (.iconst 0, 1) := by decide +kernel
theorem dX11_led_2 : decode cX11_led 2 = .ok (.iconst 5, 1) := by decide +kernel
theorem dX11_led_3 : decode cX11_led 3 = .ok (.invokestatic 99, 3) := by decide +kernel
theorem dX11_led_6 : decode cX11_led 6 = .ok (.ifCond .eq 15, 3) := by decide +kernel
theorem dX11_led_9 : decode cX11_led 9 = .ok (.aload_n 0, 1) := by decide +kernel
theorem dX11_led_10 : decode cX11_led 10 = .ok (.getfield 32, 3) := by decide +kernel
theorem dX11_led_13 : decode cX11_led 13 = .ok (.getfield 216, 3) := by decide +kernel
theorem dX11_led_16 : decode cX11_led 16 = .ok (.iload_n 1, 1) := by decide +kernel
theorem dX11_led_17 : decode cX11_led 17 = .ok (.iaload, 1) := by decide +kernel
theorem dX11_led_18 : decode cX11_led 18 = .ok (.goto 4, 3) := by decide +kernel
theorem dX11_led_21 : decode cX11_led 21 = .ok (.iconst (-1), 1) := by decide +kernel
theorem dX11_led_22 : decode cX11_led 22 = .ok (.ireturn, 1) := by decide +kernel
theorem dX11_image_0 : decode cX11_image 0 = .ok (.aload_n 0, 1) := by decide +kernel
theorem dX11_image_1 : decode cX11_image 1 = .ok (.iconst 1, 1) := by decide +kernel
theorem dX11_image_2 : decode cX11_image 2 = .ok (.putfield 284, 3) := by decide +kernel
theorem dX11_image_5 : decode cX11_image 5 = .ok (.aload_n 0, 1) := by decide +kernel
theorem dX11_image_6 : decode cX11_image 6 = .ok (.aload_n 0, 1) := by decide +kernel
theorem dX11_image_7 : decode cX11_image 7 = .ok (.getfield 26, 3) := by decide +kernel
theorem dX11_image_10 : decode cX11_image 10 = .ok (.getfield 103, 3) := by decide +kernel
theorem dX11_image_13 : decode cX11_image 13 = .ok (.putfield 288, 3) := by decide +kernel
theorem dX11_image_16 : decode cX11_image 16 = .ok (.aload_n 0, 1) := by decide +kernel
theorem dX11_image_17 : decode cX11_image 17 = .ok (.aload_n 0, 1) := by decide +kernel
theorem dX11_image_18 : decode cX11_image 18 = .ok (.getfield 26, 3) := by decide +kernel
theorem dX11_image_21 : decode cX11_image 21 = .ok (.getfield 115, 3) := by decide +kernel
theorem dX11_image_24 : decode cX11_image 24 = .ok (.putfield 291, 3) := by decide +kernel
theorem dX11_image_27 : decode cX11_image 27 = .ok (.aload_n 0, 1) := by decide +kernel
theorem dX11_image_28 : decode cX11_image 28 = .ok (.getfield 36, 3) := by decide +kernel
theorem dX11_image_31 : decode cX11_image 31 = .ok (.aload_n 0, 1) := by decide +kernel
theorem dX11_image_32 : decode cX11_image 32 = .ok (.getfield 32, 3) := by decide +kernel
theorem dX11_image_35 : decode cX11_image 35 = .ok (.aload_n 0, 1) := by decide +kernel
theorem dX11_image_36 : decode cX11_image 36 = .ok (.getfield 288, 3) := by decide +kernel
theorem dX11_image_39 : decode cX11_image 39 = .ok (.aload_n 0, 1) := by decide +kernel
theorem dX11_image_40 : decode cX11_image 40 = .ok (.getfield 291, 3) := by decide +kernel
theorem dX11_image_43 : decode cX11_image 43 = .ok (.invokevirtual 294, 3) := by decide +kernel
theorem dX11_image_46 : decode cX11_image 46 = .ok (.aload_n 0, 1) := by decide +kernel
theorem dX11_image_47 : decode cX11_image 47 = .ok (.getfield 32, 3) := by decide +kernel
theorem dX11_image_50 : decode cX11_image 50 = .ok (.getfield 216, 3) := by decide +kernel
theorem dX11_image_53 : decode cX11_image 53 = .ok (.iconst 1, 1) := by decide +kernel
theorem dX11_image_54 : decode cX11_image 54 = .ok (.iaload, 1) := by decide +kernel
theorem dX11_image_55 : decode cX11_image 55 = .ok (.ireturn, 1) := by decide +kernel
theorem dX11_back_0 : decode cX11_back 0 = .ok (.aload_n 0, 1) := by decide +kernel
theorem dX11_back_1 : decode cX11_back 1 = .ok (.getfield 284, 3) := by decide +kernel
theorem dX11_back_4 : decode cX11_back 4 = .ok (.ifCond .ne 6, 3) := by decide +kernel
theorem dX11_back_7 : decode cX11_back 7 = .ok (.bipush (-5), 2) := by decide +kernel
theorem dX11_back_9 : decode cX11_back 9 = .ok (.ireturn, 1) := by decide +kernel
theorem dX11_back_10 : decode cX11_back 10 = .ok (.aload_n 0, 1) := by decide +kernel
theorem dX11_back_11 : decode cX11_back 11 = .ok (.getfield 32, 3) := by decide +kernel
theorem dX11_back_14 : decode cX11_back 14 = .ok (.aload_n 0, 1) := by decide +kernel
theorem dX11_back_15 : decode cX11_back 15 = .ok (.getfield 36, 3) := by decide +kernel
theorem dX11_back_18 : decode cX11_back 18 = .ok (.aload_n 0, 1) := by decide +kernel
theorem dX11_back_19 : decode cX11_back 19 = .ok (.getfield 288, 3) := by decide +kernel
theorem dX11_back_22 : decode cX11_back 22 = .ok (.aload_n 0, 1) := by decide +kernel
theorem dX11_back_23 : decode cX11_back 23 = .ok (.getfield 291, 3) := by decide +kernel
theorem dX11_back_26 : decode cX11_back 26 = .ok (.invokevirtual 294, 3) := by decide +kernel
theorem dX11_back_29 : decode cX11_back 29 = .ok (.aload_n 0, 1) := by decide +kernel
theorem dX11_back_30 : decode cX11_back 30 = .ok (.getfield 32, 3) := by decide +kernel
theorem dX11_back_33 : decode cX11_back 33 = .ok (.getfield 216, 3) := by decide +kernel
theorem dX11_back_36 : decode cX11_back 36 = .ok (.iconst 1, 1) := by decide +kernel
theorem dX11_back_37 : decode cX11_back 37 = .ok (.iaload, 1) := by decide +kernel
theorem dX11_back_38 : decode cX11_back 38 = .ok (.ireturn, 1) := by decide +kernel
theorem dX11_undo_0 : decode cX11_undo 0 = .ok (.aload_n 0, 1) := by decide +kernel
theorem dX11_undo_1 : decode cX11_undo 1 = .ok (.getfield 48, 3) := by decide +kernel
theorem dX11_undo_4 : decode cX11_undo 4 = .ok (.invokevirtual 297, 3) := by decide +kernel
theorem dX11_undo_7 : decode cX11_undo 7 = .ok (.ifCond .eq 13, 3) := by decide +kernel
theorem dX11_undo_10 : decode cX11_undo 10 = .ok (.aload_n 0, 1) := by decide +kernel
theorem dX11_undo_11 : decode cX11_undo 11 = .ok (.getfield 48, 3) := by decide +kernel
theorem dX11_undo_14 : decode cX11_undo 14 = .ok (.getfield 301, 3) := by decide +kernel
theorem dX11_undo_17 : decode cX11_undo 17 = .ok (.goto 5, 3) := by decide +kernel
theorem dX11_undo_20 : decode cX11_undo 20 = .ok (.bipush (-5), 2) := by decide +kernel
theorem dX11_undo_22 : decode cX11_undo 22 = .ok (.ireturn, 1) := by decide +kernel
theorem dX11_redo_0 : decode cX11_redo 0 = .ok (.aload_n 0, 1) := by decide +kernel
theorem dX11_redo_1 : decode cX11_redo 1 = .ok (.getfield 48, 3) := by decide +kernel
theorem dX11_redo_4 : decode cX11_redo 4 = .ok (.invokevirtual 304, 3) := by decide +kernel
theorem dX11_redo_7 : decode cX11_redo 7 = .ok (.ifCond .eq 21, 3) := by decide +kernel
theorem dX11_redo_10 : decode cX11_redo 10 = .ok (.aload_n 0, 1) := by decide +kernel
theorem dX11_redo_11 : decode cX11_redo 11 = .ok (.getfield 48, 3) := by decide +kernel
theorem dX11_redo_14 : decode cX11_redo 14 = .ok (.getfield 307, 3) := by decide +kernel
theorem dX11_redo_17 : decode cX11_redo 17 = .ok (.aload_n 0, 1) := by decide +kernel
theorem dX11_redo_18 : decode cX11_redo 18 = .ok (.getfield 48, 3) := by decide +kernel
theorem dX11_redo_21 : decode cX11_redo 21 = .ok (.getfield 301, 3) := by decide +kernel
theorem dX11_redo_24 : decode cX11_redo 24 = .ok (.isub, 1) := by decide +kernel
theorem dX11_redo_25 : decode cX11_redo 25 = .ok (.goto 5, 3) := by decide +kernel
theorem dX11_redo_28 : decode cX11_redo 28 = .ok (.bipush (-5), 2) := by decide +kernel
theorem dX11_redo_30 : decode cX11_redo 30 = .ok (.ireturn, 1) := by decide +kernel
theorem dX11_body_0 : decode cX11_body 0 = .ok (.iload_n 1, 1) := by decide +kernel
theorem dX11_body_1 : decode cX11_body 1 = .ok (.iconst 0, 1) := by decide +kernel
theorem dX11_body_2 : decode cX11_body 2 = .ok (.bipush 7, 2) := by decide +kernel
theorem dX11_body_4 : decode cX11_body 4 = .ok (.invokestatic 99, 3) := by decide +kernel
theorem dX11_body_7 : decode cX11_body 7 = .ok (.ifCond .ne 5, 3) := by decide +kernel
theorem dX11_body_10 : decode cX11_body 10 = .ok (.iconst (-1), 1) := by decide +kernel
theorem dX11_body_11 : decode cX11_body 11 = .ok (.ireturn, 1) := by decide +kernel
theorem dX11_body_12 : decode cX11_body 12 = .ok (.aload_n 0, 1) := by decide +kernel
theorem dX11_body_13 : decode cX11_body 13 = .ok (.getfield 91, 3) := by decide +kernel
theorem dX11_body_16 : decode cX11_body 16 = .ok (.iload_n 1, 1) := by decide +kernel
theorem dX11_body_17 : decode cX11_body 17 = .ok (.invokevirtual 310, 3) := by decide +kernel
theorem dX11_body_20 : decode cX11_body 20 = .ok (.ireturn, 1) := by decide +kernel
theorem dX11_act_0 : decode cX11_act 0 = .ok (.aload_n 0, 1) := by decide +kernel
theorem dX11_act_1 : decode cX11_act 1 = .ok (.getfield 91, 3) := by decide +kernel
theorem dX11_act_4 : decode cX11_act 4 = .ok (.iload_n 1, 1) := by decide +kernel
theorem dX11_act_5 : decode cX11_act 5 = .ok (.iload_n 2, 1) := by decide +kernel
theorem dX11_act_6 : decode cX11_act 6 = .ok (.iload_n 3, 1) := by decide +kernel
theorem dX11_act_7 : decode cX11_act 7 = .ok (.invokevirtual 312, 3) := by decide +kernel
theorem dX11_act_10 : decode cX11_act 10 = .ok (.ireturn, 1) := by decide +kernel
theorem dX11_trace_0 : decode cX11_trace 0 = .ok (.iload_n 1, 1) := by decide +kernel
theorem dX11_trace_1 : decode cX11_trace 1 = .ok (.ifCond .lt 26, 3) := by decide +kernel
theorem dX11_trace_4 : decode cX11_trace 4 = .ok (.iload_n 1, 1) := by decide +kernel
theorem dX11_trace_5 : decode cX11_trace 5 = .ok (.aload_n 0, 1) := by decide +kernel
theorem dX11_trace_6 : decode cX11_trace 6 = .ok (.getfield 91, 3) := by decide +kernel
theorem dX11_trace_9 : decode cX11_trace 9 = .ok (.invokevirtual 316, 3) := by decide +kernel
theorem dX11_trace_12 : decode cX11_trace 12 = .ok (.if_icmp .ge 15, 3) := by decide +kernel
theorem dX11_trace_15 : decode cX11_trace 15 = .ok (.aload_n 0, 1) := by decide +kernel
theorem dX11_trace_16 : decode cX11_trace 16 = .ok (.getfield 91, 3) := by decide +kernel
theorem dX11_trace_19 : decode cX11_trace 19 = .ok (.getfield 319, 3) := by decide +kernel
theorem dX11_trace_22 : decode cX11_trace 22 = .ok (.iload_n 1, 1) := by decide +kernel
theorem dX11_trace_23 : decode cX11_trace 23 = .ok (.iaload, 1) := by decide +kernel
theorem dX11_trace_24 : decode cX11_trace 24 = .ok (.goto 4, 3) := by decide +kernel
theorem dX11_trace_27 : decode cX11_trace 27 = .ok (.iconst (-1), 1) := by decide +kernel
theorem dX11_trace_28 : decode cX11_trace 28 = .ok (.ireturn, 1) := by decide +kernel
theorem dX11_keep_0 : decode cX11_keep 0 = .ok (.iload_n 1, 1) := by decide +kernel
theorem dX11_keep_1 : decode cX11_keep 1 = .ok (.invokestatic 322, 3) := by decide +kernel
theorem dX11_keep_4 : decode cX11_keep 4 = .ok (.ifCond .ne 5, 3) := by decide +kernel
theorem dX11_keep_7 : decode cX11_keep 7 = .ok (.iconst (-1), 1) := by decide +kernel
theorem dX11_keep_8 : decode cX11_keep 8 = .ok (.ireturn, 1) := by decide +kernel
theorem dX11_keep_9 : decode cX11_keep 9 = .ok (.iload_n 2, 1) := by decide +kernel
theorem dX11_keep_10 : decode cX11_keep 10 = .ok (.iconst (-1), 1) := by decide +kernel
theorem dX11_keep_11 : decode cX11_keep 11 = .ok (.if_icmp .ne 14, 3) := by decide +kernel
theorem dX11_keep_14 : decode cX11_keep 14 = .ok (.aload_n 0, 1) := by decide +kernel
theorem dX11_keep_15 : decode cX11_keep 15 = .ok (.getfield 95, 3) := by decide +kernel
theorem dX11_keep_18 : decode cX11_keep 18 = .ok (.iload_n 1, 1) := by decide +kernel
theorem dX11_keep_19 : decode cX11_keep 19 = .ok (.invokevirtual 325, 3) := by decide +kernel
theorem dX11_keep_22 : decode cX11_keep 22 = .ok (.goto 28, 3) := by decide +kernel
theorem dX11_keep_25 : decode cX11_keep 25 = .ok (.aload_n 0, 1) := by decide +kernel
theorem dX11_keep_26 : decode cX11_keep 26 = .ok (.getfield 91, 3) := by decide +kernel
theorem dX11_keep_29 : decode cX11_keep 29 = .ok (.iload_n 2, 1) := by decide +kernel
theorem dX11_keep_30 : decode cX11_keep 30 = .ok (.invokevirtual 328, 3) := by decide +kernel
theorem dX11_keep_33 : decode cX11_keep 33 = .ok (.ifCond .eq 15, 3) := by decide +kernel
theorem dX11_keep_36 : decode cX11_keep 36 = .ok (.aload_n 0, 1) := by decide +kernel
theorem dX11_keep_37 : decode cX11_keep 37 = .ok (.getfield 95, 3) := by decide +kernel
theorem dX11_keep_40 : decode cX11_keep 40 = .ok (.iload_n 1, 1) := by decide +kernel
theorem dX11_keep_41 : decode cX11_keep 41 = .ok (.iload_n 2, 1) := by decide +kernel
theorem dX11_keep_42 : decode cX11_keep 42 = .ok (.invokevirtual 331, 3) := by decide +kernel
theorem dX11_keep_45 : decode cX11_keep 45 = .ok (.goto 5, 3) := by decide +kernel
theorem dX11_keep_48 : decode cX11_keep 48 = .ok (.iconst (-1), 1) := by decide +kernel
theorem dX11_keep_49 : decode cX11_keep 49 = .ok (.ireturn, 1) := by decide +kernel
theorem dX11_keep_50 : decode cX11_keep 50 = .ok (.iconst 1, 1) := by decide +kernel
theorem dX11_keep_51 : decode cX11_keep 51 = .ok (.ireturn, 1) := by decide +kernel
theorem dX11_row_0 : decode cX11_row 0 = .ok (.iload_n 1, 1) := by decide +kernel
theorem dX11_row_1 : decode cX11_row 1 = .ok (.invokestatic 322, 3) := by decide +kernel
theorem dX11_row_4 : decode cX11_row 4 = .ok (.ifCond .eq 18, 3) := by decide +kernel
theorem dX11_row_7 : decode cX11_row 7 = .ok (.iload_n 2, 1) := by decide +kernel
theorem dX11_row_8 : decode cX11_row 8 = .ok (.iconst 0, 1) := by decide +kernel
theorem dX11_row_9 : decode cX11_row 9 = .ok (.iconst 4, 1) := by decide +kernel
theorem dX11_row_10 : decode cX11_row 10 = .ok (.invokestatic 99, 3) := by decide +kernel
theorem dX11_row_13 : decode cX11_row 13 = .ok (.ifCond .eq 9, 3) := by decide +kernel
theorem dX11_row_16 : decode cX11_row 16 = .ok (.iload_n 3, 1) := by decide +kernel
theorem dX11_row_17 : decode cX11_row 17 = .ok (.bipush 60, 2) := by decide +kernel
theorem dX11_row_19 : decode cX11_row 19 = .ok (.if_icmp .le 5, 3) := by decide +kernel
theorem dX11_row_22 : decode cX11_row 22 = .ok (.iconst (-1), 1) := by decide +kernel
theorem dX11_row_23 : decode cX11_row 23 = .ok (.ireturn, 1) := by decide +kernel
theorem dX11_row_24 : decode cX11_row 24 = .ok (.iload_n 3, 1) := by decide +kernel
theorem dX11_row_25 : decode cX11_row 25 = .ok (.ifCond .ge 6, 3) := by decide +kernel
theorem dX11_row_28 : decode cX11_row 28 = .ok (.bipush (-14), 2) := by decide +kernel
theorem dX11_row_30 : decode cX11_row 30 = .ok (.ireturn, 1) := by decide +kernel
theorem dX11_row_31 : decode cX11_row 31 = .ok (.aload_n 0, 1) := by decide +kernel
theorem dX11_row_32 : decode cX11_row 32 = .ok (.getfield 95, 3) := by decide +kernel
theorem dX11_row_35 : decode cX11_row 35 = .ok (.iload_n 1, 1) := by decide +kernel
theorem dX11_row_36 : decode cX11_row 36 = .ok (.iload_n 2, 1) := by decide +kernel
theorem dX11_row_37 : decode cX11_row 37 = .ok (.iload_n 3, 1) := by decide +kernel
theorem dX11_row_38 : decode cX11_row 38 = .ok (.invokevirtual 334, 3) := by decide +kernel
theorem dX11_row_41 : decode cX11_row 41 = .ok (.iconst 1, 1) := by decide +kernel
theorem dX11_row_42 : decode cX11_row 42 = .ok (.ireturn, 1) := by decide +kernel
theorem dX11_put_0 : decode cX11_put 0 = .ok (.aload_n 0, 1) := by decide +kernel
theorem dX11_put_1 : decode cX11_put 1 = .ok (.getfield 95, 3) := by decide +kernel
theorem dX11_put_4 : decode cX11_put 4 = .ok (.iload_n 1, 1) := by decide +kernel
theorem dX11_put_5 : decode cX11_put 5 = .ok (.iload_n 2, 1) := by decide +kernel
theorem dX11_put_6 : decode cX11_put 6 = .ok (.invokevirtual 337, 3) := by decide +kernel
theorem dX11_put_9 : decode cX11_put 9 = .ok (.istore 5, 2) := by decide +kernel
theorem dX11_put_11 : decode cX11_put 11 = .ok (.iload 5, 2) := by decide +kernel
theorem dX11_put_13 : decode cX11_put 13 = .ok (.ifCond .eq 6, 3) := by decide +kernel
theorem dX11_put_16 : decode cX11_put 16 = .ok (.iload 5, 2) := by decide +kernel
theorem dX11_put_18 : decode cX11_put 18 = .ok (.ireturn, 1) := by decide +kernel
theorem dX11_put_19 : decode cX11_put 19 = .ok (.aload_n 0, 1) := by decide +kernel
theorem dX11_put_20 : decode cX11_put 20 = .ok (.getfield 95, 3) := by decide +kernel
theorem dX11_put_23 : decode cX11_put 23 = .ok (.iload_n 1, 1) := by decide +kernel
theorem dX11_put_24 : decode cX11_put 24 = .ok (.iload_n 2, 1) := by decide +kernel
theorem dX11_put_25 : decode cX11_put 25 = .ok (.lload_n 3, 1) := by decide +kernel
theorem dX11_put_26 : decode cX11_put 26 = .ok (.invokevirtual 340, 3) := by decide +kernel
theorem dX11_put_29 : decode cX11_put 29 = .ok (.iconst 1, 1) := by decide +kernel
theorem dX11_put_30 : decode cX11_put 30 = .ok (.ireturn, 1) := by decide +kernel
theorem dX11_element_0 : decode cX11_element 0 = .ok (.aload_n 0, 1) := by decide +kernel
theorem dX11_element_1 : decode cX11_element 1 = .ok (.getfield 95, 3) := by decide +kernel
theorem dX11_element_4 : decode cX11_element 4 = .ok (.iload_n 1, 1) := by decide +kernel
theorem dX11_element_5 : decode cX11_element 5 = .ok (.iload_n 2, 1) := by decide +kernel
theorem dX11_element_6 : decode cX11_element 6 = .ok (.invokevirtual 337, 3) := by decide +kernel
theorem dX11_element_9 : decode cX11_element 9 = .ok (.ifCond .eq 9, 3) := by decide +kernel
theorem dX11_element_12 : decode cX11_element 12 = .ok (.ldc2_w 346, 3) := by decide +kernel
theorem dX11_element_15 : decode cX11_element 15 = .ok (.goto 12, 3) := by decide +kernel
theorem dX11_element_18 : decode cX11_element 18 = .ok (.aload_n 0, 1) := by decide +kernel
theorem dX11_element_19 : decode cX11_element 19 = .ok (.getfield 95, 3) := by decide +kernel
theorem dX11_element_22 : decode cX11_element 22 = .ok (.iload_n 1, 1) := by decide +kernel
theorem dX11_element_23 : decode cX11_element 23 = .ok (.iload_n 2, 1) := by decide +kernel
theorem dX11_element_24 : decode cX11_element 24 = .ok (.invokevirtual 133, 3) := by decide +kernel
theorem dX11_element_27 : decode cX11_element 27 = .ok (.lreturn, 1) := by decide +kernel
theorem dX11_shift_0 : decode cX11_shift 0 = .ok (.aload_n 0, 1) := by decide +kernel
theorem dX11_shift_1 : decode cX11_shift 1 = .ok (.getfield 95, 3) := by decide +kernel
theorem dX11_shift_4 : decode cX11_shift 4 = .ok (.iload_n 1, 1) := by decide +kernel
theorem dX11_shift_5 : decode cX11_shift 5 = .ok (.iload_n 3, 1) := by decide +kernel
theorem dX11_shift_6 : decode cX11_shift 6 = .ok (.invokevirtual 348, 3) := by decide +kernel
theorem dX11_shift_9 : decode cX11_shift 9 = .ok (.istore 6, 2) := by decide +kernel
theorem dX11_shift_11 : decode cX11_shift 11 = .ok (.iload 6, 2) := by decide +kernel
theorem dX11_shift_13 : decode cX11_shift 13 = .ok (.ifCond .eq 6, 3) := by decide +kernel
theorem dX11_shift_16 : decode cX11_shift 16 = .ok (.iload 6, 2) := by decide +kernel
theorem dX11_shift_18 : decode cX11_shift 18 = .ok (.ireturn, 1) := by decide +kernel
theorem dX11_shift_19 : decode cX11_shift 19 = .ok (.aload_n 0, 1) := by decide +kernel
theorem dX11_shift_20 : decode cX11_shift 20 = .ok (.getfield 95, 3) := by decide +kernel
theorem dX11_shift_23 : decode cX11_shift 23 = .ok (.iload_n 1, 1) := by decide +kernel
theorem dX11_shift_24 : decode cX11_shift 24 = .ok (.iload_n 2, 1) := by decide +kernel
theorem dX11_shift_25 : decode cX11_shift 25 = .ok (.iload 5, 2) := by decide +kernel
theorem dX11_shift_27 : decode cX11_shift 27 = .ok (.invokevirtual 351, 3) := by decide +kernel
theorem dX11_shift_30 : decode cX11_shift 30 = .ok (.ifCond .eq 18, 3) := by decide +kernel
theorem dX11_shift_33 : decode cX11_shift 33 = .ok (.aload_n 0, 1) := by decide +kernel
theorem dX11_shift_34 : decode cX11_shift 34 = .ok (.getfield 95, 3) := by decide +kernel
theorem dX11_shift_37 : decode cX11_shift 37 = .ok (.iload_n 3, 1) := by decide +kernel
theorem dX11_shift_38 : decode cX11_shift 38 = .ok (.iload 4, 2) := by decide +kernel
theorem dX11_shift_40 : decode cX11_shift 40 = .ok (.iload 5, 2) := by decide +kernel
theorem dX11_shift_42 : decode cX11_shift 42 = .ok (.invokevirtual 351, 3) := by decide +kernel
theorem dX11_shift_45 : decode cX11_shift 45 = .ok (.ifCond .ne 6, 3) := by decide +kernel
theorem dX11_shift_48 : decode cX11_shift 48 = .ok (.bipush (-13), 2) := by decide +kernel
theorem dX11_shift_50 : decode cX11_shift 50 = .ok (.ireturn, 1) := by decide +kernel
theorem dX11_shift_51 : decode cX11_shift 51 = .ok (.aload_n 0, 1) := by decide +kernel
theorem dX11_shift_52 : decode cX11_shift 52 = .ok (.getfield 95, 3) := by decide +kernel
theorem dX11_shift_55 : decode cX11_shift 55 = .ok (.iload_n 1, 1) := by decide +kernel
theorem dX11_shift_56 : decode cX11_shift 56 = .ok (.iload_n 2, 1) := by decide +kernel
theorem dX11_shift_57 : decode cX11_shift 57 = .ok (.iload_n 3, 1) := by decide +kernel
theorem dX11_shift_58 : decode cX11_shift 58 = .ok (.iload 4, 2) := by decide +kernel
theorem dX11_shift_60 : decode cX11_shift 60 = .ok (.iload 5, 2) := by decide +kernel
theorem dX11_shift_62 : decode cX11_shift 62 = .ok (.invokevirtual 354, 3) := by decide +kernel
theorem dX11_shift_65 : decode cX11_shift 65 = .ok (.iload 5, 2) := by decide +kernel
theorem dX11_shift_67 : decode cX11_shift 67 = .ok (.ireturn, 1) := by decide +kernel
theorem dX11_taken_0 : decode cX11_taken 0 = .ok (.iload_n 1, 1) := by decide +kernel
theorem dX11_taken_1 : decode cX11_taken 1 = .ok (.invokestatic 322, 3) := by decide +kernel
theorem dX11_taken_4 : decode cX11_taken 4 = .ok (.ifCond .eq 13, 3) := by decide +kernel
theorem dX11_taken_7 : decode cX11_taken 7 = .ok (.iload_n 2, 1) := by decide +kernel
theorem dX11_taken_8 : decode cX11_taken 8 = .ok (.iconst 0, 1) := by decide +kernel
theorem dX11_taken_9 : decode cX11_taken 9 = .ok (.bipush 7, 2) := by decide +kernel
theorem dX11_taken_11 : decode cX11_taken 11 = .ok (.invokestatic 99, 3) := by decide +kernel
theorem dX11_taken_14 : decode cX11_taken 14 = .ok (.ifCond .ne 5, 3) := by decide +kernel
theorem dX11_taken_17 : decode cX11_taken 17 = .ok (.iconst (-1), 1) := by decide +kernel
theorem dX11_taken_18 : decode cX11_taken 18 = .ok (.ireturn, 1) := by decide +kernel
theorem dX11_taken_19 : decode cX11_taken 19 = .ok (.aload_n 0, 1) := by decide +kernel
theorem dX11_taken_20 : decode cX11_taken 20 = .ok (.getfield 95, 3) := by decide +kernel
theorem dX11_taken_23 : decode cX11_taken 23 = .ok (.iload_n 1, 1) := by decide +kernel
theorem dX11_taken_24 : decode cX11_taken 24 = .ok (.invokevirtual 358, 3) := by decide +kernel
theorem dX11_taken_27 : decode cX11_taken 27 = .ok (.ifCond .eq 6, 3) := by decide +kernel
theorem dX11_taken_30 : decode cX11_taken 30 = .ok (.bipush (-11), 2) := by decide +kernel
theorem dX11_taken_32 : decode cX11_taken 32 = .ok (.ireturn, 1) := by decide +kernel
theorem dX11_taken_33 : decode cX11_taken 33 = .ok (.aload_n 0, 1) := by decide +kernel
theorem dX11_taken_34 : decode cX11_taken 34 = .ok (.getfield 95, 3) := by decide +kernel
theorem dX11_taken_37 : decode cX11_taken 37 = .ok (.iload_n 1, 1) := by decide +kernel
theorem dX11_taken_38 : decode cX11_taken 38 = .ok (.invokevirtual 361, 3) := by decide +kernel
theorem dX11_taken_41 : decode cX11_taken 41 = .ok (.istore_n 3, 1) := by decide +kernel
theorem dX11_taken_42 : decode cX11_taken 42 = .ok (.aload_n 0, 1) := by decide +kernel
theorem dX11_taken_43 : decode cX11_taken 43 = .ok (.getfield 91, 3) := by decide +kernel
theorem dX11_taken_46 : decode cX11_taken 46 = .ok (.iload_n 3, 1) := by decide +kernel
theorem dX11_taken_47 : decode cX11_taken 47 = .ok (.invokevirtual 328, 3) := by decide +kernel
theorem dX11_taken_50 : decode cX11_taken 50 = .ok (.ifCond .eq 31, 3) := by decide +kernel
theorem dX11_taken_53 : decode cX11_taken 53 = .ok (.aload_n 0, 1) := by decide +kernel
theorem dX11_taken_54 : decode cX11_taken 54 = .ok (.getfield 91, 3) := by decide +kernel
theorem dX11_taken_57 : decode cX11_taken 57 = .ok (.getfield 364, 3) := by decide +kernel
theorem dX11_taken_60 : decode cX11_taken 60 = .ok (.iload_n 3, 1) := by decide +kernel
theorem dX11_taken_61 : decode cX11_taken 61 = .ok (.iaload, 1) := by decide +kernel
theorem dX11_taken_62 : decode cX11_taken 62 = .ok (.iload_n 2, 1) := by decide +kernel
theorem dX11_taken_63 : decode cX11_taken 63 = .ok (.invokestatic 367, 3) := by decide +kernel
theorem dX11_taken_66 : decode cX11_taken 66 = .ok (.ifCond .eq 15, 3) := by decide +kernel
theorem dX11_taken_69 : decode cX11_taken 69 = .ok (.aload_n 0, 1) := by decide +kernel
theorem dX11_taken_70 : decode cX11_taken 70 = .ok (.getfield 91, 3) := by decide +kernel
theorem dX11_taken_73 : decode cX11_taken 73 = .ok (.getfield 364, 3) := by decide +kernel
theorem dX11_taken_76 : decode cX11_taken 76 = .ok (.iload_n 3, 1) := by decide +kernel
theorem dX11_taken_77 : decode cX11_taken 77 = .ok (.iaload, 1) := by decide +kernel
theorem dX11_taken_78 : decode cX11_taken 78 = .ok (.goto 5, 3) := by decide +kernel
theorem dX11_taken_81 : decode cX11_taken 81 = .ok (.bipush (-12), 2) := by decide +kernel
theorem dX11_taken_83 : decode cX11_taken 83 = .ok (.ireturn, 1) := by decide +kernel
theorem dX11_count_0 : decode cX11_count 0 = .ok (.iload_n 1, 1) := by decide +kernel
theorem dX11_count_1 : decode cX11_count 1 = .ok (.tableswitch 87 0 5 #[39, 47, 55, 63, 71, 79], 39) := by decide +kernel
theorem dX11_count_40 : decode cX11_count 40 = .ok (.aload_n 0, 1) := by decide +kernel
theorem dX11_count_41 : decode cX11_count 41 = .ok (.getfield 26, 3) := by decide +kernel
theorem dX11_count_44 : decode cX11_count 44 = .ok (.getfield 103, 3) := by decide +kernel
theorem dX11_count_47 : decode cX11_count 47 = .ok (.ireturn, 1) := by decide +kernel
theorem dX11_count_48 : decode cX11_count 48 = .ok (.aload_n 0, 1) := by decide +kernel
theorem dX11_count_49 : decode cX11_count 49 = .ok (.getfield 26, 3) := by decide +kernel
theorem dX11_count_52 : decode cX11_count 52 = .ok (.getfield 115, 3) := by decide +kernel
theorem dX11_count_55 : decode cX11_count 55 = .ok (.ireturn, 1) := by decide +kernel
theorem dX11_count_56 : decode cX11_count 56 = .ok (.aload_n 0, 1) := by decide +kernel
theorem dX11_count_57 : decode cX11_count 57 = .ok (.getfield 55, 3) := by decide +kernel
theorem dX11_count_60 : decode cX11_count 60 = .ok (.getfield 169, 3) := by decide +kernel
theorem dX11_count_63 : decode cX11_count 63 = .ok (.ireturn, 1) := by decide +kernel
theorem dX11_count_64 : decode cX11_count 64 = .ok (.aload_n 0, 1) := by decide +kernel
theorem dX11_count_65 : decode cX11_count 65 = .ok (.getfield 48, 3) := by decide +kernel
theorem dX11_count_68 : decode cX11_count 68 = .ok (.getfield 301, 3) := by decide +kernel
theorem dX11_count_71 : decode cX11_count 71 = .ok (.ireturn, 1) := by decide +kernel
theorem dX11_count_72 : decode cX11_count 72 = .ok (.aload_n 0, 1) := by decide +kernel
theorem dX11_count_73 : decode cX11_count 73 = .ok (.getfield 91, 3) := by decide +kernel
theorem dX11_count_76 : decode cX11_count 76 = .ok (.getfield 370, 3) := by decide +kernel
theorem dX11_count_79 : decode cX11_count 79 = .ok (.ireturn, 1) := by decide +kernel
theorem dX11_count_80 : decode cX11_count 80 = .ok (.aload_n 0, 1) := by decide +kernel
theorem dX11_count_81 : decode cX11_count 81 = .ok (.getfield 91, 3) := by decide +kernel
theorem dX11_count_84 : decode cX11_count 84 = .ok (.getfield 373, 3) := by decide +kernel
theorem dX11_count_87 : decode cX11_count 87 = .ok (.ireturn, 1) := by decide +kernel
theorem dX11_count_88 : decode cX11_count 88 = .ok (.iconst (-1), 1) := by decide +kernel
theorem dX11_count_89 : decode cX11_count 89 = .ok (.ireturn, 1) := by decide +kernel
theorem dX11_isWithin_0 : decode cX11_isWithin 0 = .ok (.iload_n 0, 1) := by decide +kernel
theorem dX11_isWithin_1 : decode cX11_isWithin 1 = .ok (.iload_n 1, 1) := by decide +kernel
theorem dX11_isWithin_2 : decode cX11_isWithin 2 = .ok (.if_icmp .lt 12, 3) := by decide +kernel
theorem dX11_isWithin_5 : decode cX11_isWithin 5 = .ok (.iload_n 0, 1) := by decide +kernel
theorem dX11_isWithin_6 : decode cX11_isWithin 6 = .ok (.iload_n 2, 1) := by decide +kernel
theorem dX11_isWithin_7 : decode cX11_isWithin 7 = .ok (.if_icmp .gt 7, 3) := by decide +kernel
theorem dX11_isWithin_10 : decode cX11_isWithin 10 = .ok (.iconst 1, 1) := by decide +kernel
theorem dX11_isWithin_11 : decode cX11_isWithin 11 = .ok (.goto 4, 3) := by decide +kernel
theorem dX11_isWithin_14 : decode cX11_isWithin 14 = .ok (.iconst 0, 1) := by decide +kernel
theorem dX11_isWithin_15 : decode cX11_isWithin 15 = .ok (.ireturn, 1) := by decide +kernel
theorem dX11_placesApart_0 : decode cX11_placesApart 0 = .ok (.iload_n 0, 1) := by decide +kernel
theorem dX11_placesApart_1 : decode cX11_placesApart 1 = .ok (.iconst 2, 1) := by decide +kernel
theorem dX11_placesApart_2 : decode cX11_placesApart 2 = .ok (.idiv, 1) := by decide +kernel
theorem dX11_placesApart_3 : decode cX11_placesApart 3 = .ok (.iload_n 1, 1) := by decide +kernel
theorem dX11_placesApart_4 : decode cX11_placesApart 4 = .ok (.iconst 2, 1) := by decide +kernel
theorem dX11_placesApart_5 : decode cX11_placesApart 5 = .ok (.idiv, 1) := by decide +kernel
theorem dX11_placesApart_6 : decode cX11_placesApart 6 = .ok (.isub, 1) := by decide +kernel
theorem dX11_placesApart_7 : decode cX11_placesApart 7 = .ok (.invokestatic 376, 3) := by decide +kernel
theorem dX11_placesApart_10 : decode cX11_placesApart 10 = .ok (.ireturn, 1) := by decide +kernel
theorem dJ6_bitCount_0f7a4_0 : decode cJ6_bitCount_0f7a4 0 = .ok (.iload_n 0, 1) := by decide +kernel
theorem dJ6_bitCount_0f7a4_1 : decode cJ6_bitCount_0f7a4 1 = .ok (.iload_n 0, 1) := by decide +kernel
theorem dJ6_bitCount_0f7a4_2 : decode cJ6_bitCount_0f7a4 2 = .ok (.iconst 1, 1) := by decide +kernel
theorem dJ6_bitCount_0f7a4_3 : decode cJ6_bitCount_0f7a4 3 = .ok (.iushr, 1) := by decide +kernel
theorem dJ6_bitCount_0f7a4_4 : decode cJ6_bitCount_0f7a4 4 = .ok (.ldc_w 265, 3) := by decide +kernel
theorem dJ6_bitCount_0f7a4_7 : decode cJ6_bitCount_0f7a4 7 = .ok (.iand, 1) := by decide +kernel
theorem dJ6_bitCount_0f7a4_8 : decode cJ6_bitCount_0f7a4 8 = .ok (.isub, 1) := by decide +kernel
theorem dJ6_bitCount_0f7a4_9 : decode cJ6_bitCount_0f7a4 9 = .ok (.istore_n 0, 1) := by decide +kernel
theorem dJ6_bitCount_0f7a4_10 : decode cJ6_bitCount_0f7a4 10 = .ok (.iload_n 0, 1) := by decide +kernel
theorem dJ6_bitCount_0f7a4_11 : decode cJ6_bitCount_0f7a4 11 = .ok (.ldc_w 266, 3) := by decide +kernel
theorem dJ6_bitCount_0f7a4_14 : decode cJ6_bitCount_0f7a4 14 = .ok (.iand, 1) := by decide +kernel
theorem dJ6_bitCount_0f7a4_15 : decode cJ6_bitCount_0f7a4 15 = .ok (.iload_n 0, 1) := by decide +kernel
theorem dJ6_bitCount_0f7a4_16 : decode cJ6_bitCount_0f7a4 16 = .ok (.iconst 2, 1) := by decide +kernel
theorem dJ6_bitCount_0f7a4_17 : decode cJ6_bitCount_0f7a4 17 = .ok (.iushr, 1) := by decide +kernel
theorem dJ6_bitCount_0f7a4_18 : decode cJ6_bitCount_0f7a4 18 = .ok (.ldc_w 266, 3) := by decide +kernel
theorem dJ6_bitCount_0f7a4_21 : decode cJ6_bitCount_0f7a4 21 = .ok (.iand, 1) := by decide +kernel
theorem dJ6_bitCount_0f7a4_22 : decode cJ6_bitCount_0f7a4 22 = .ok (.iadd, 1) := by decide +kernel
theorem dJ6_bitCount_0f7a4_23 : decode cJ6_bitCount_0f7a4 23 = .ok (.istore_n 0, 1) := by decide +kernel
theorem dJ6_bitCount_0f7a4_24 : decode cJ6_bitCount_0f7a4 24 = .ok (.iload_n 0, 1) := by decide +kernel
theorem dJ6_bitCount_0f7a4_25 : decode cJ6_bitCount_0f7a4 25 = .ok (.iload_n 0, 1) := by decide +kernel
theorem dJ6_bitCount_0f7a4_26 : decode cJ6_bitCount_0f7a4 26 = .ok (.iconst 4, 1) := by decide +kernel
theorem dJ6_bitCount_0f7a4_27 : decode cJ6_bitCount_0f7a4 27 = .ok (.iushr, 1) := by decide +kernel
theorem dJ6_bitCount_0f7a4_28 : decode cJ6_bitCount_0f7a4 28 = .ok (.iadd, 1) := by decide +kernel
theorem dJ6_bitCount_0f7a4_29 : decode cJ6_bitCount_0f7a4 29 = .ok (.ldc_w 267, 3) := by decide +kernel
theorem dJ6_bitCount_0f7a4_32 : decode cJ6_bitCount_0f7a4 32 = .ok (.iand, 1) := by decide +kernel
theorem dJ6_bitCount_0f7a4_33 : decode cJ6_bitCount_0f7a4 33 = .ok (.istore_n 0, 1) := by decide +kernel
theorem dJ6_bitCount_0f7a4_34 : decode cJ6_bitCount_0f7a4 34 = .ok (.iload_n 0, 1) := by decide +kernel
theorem dJ6_bitCount_0f7a4_35 : decode cJ6_bitCount_0f7a4 35 = .ok (.iload_n 0, 1) := by decide +kernel
theorem dJ6_bitCount_0f7a4_36 : decode cJ6_bitCount_0f7a4 36 = .ok (.bipush 8, 2) := by decide +kernel
theorem dJ6_bitCount_0f7a4_38 : decode cJ6_bitCount_0f7a4 38 = .ok (.iushr, 1) := by decide +kernel
theorem dJ6_bitCount_0f7a4_39 : decode cJ6_bitCount_0f7a4 39 = .ok (.iadd, 1) := by decide +kernel
theorem dJ6_bitCount_0f7a4_40 : decode cJ6_bitCount_0f7a4 40 = .ok (.istore_n 0, 1) := by decide +kernel
theorem dJ6_bitCount_0f7a4_41 : decode cJ6_bitCount_0f7a4 41 = .ok (.iload_n 0, 1) := by decide +kernel
theorem dJ6_bitCount_0f7a4_42 : decode cJ6_bitCount_0f7a4 42 = .ok (.iload_n 0, 1) := by decide +kernel
theorem dJ6_bitCount_0f7a4_43 : decode cJ6_bitCount_0f7a4 43 = .ok (.bipush 16, 2) := by decide +kernel
theorem dJ6_bitCount_0f7a4_45 : decode cJ6_bitCount_0f7a4 45 = .ok (.iushr, 1) := by decide +kernel
theorem dJ6_bitCount_0f7a4_46 : decode cJ6_bitCount_0f7a4 46 = .ok (.iadd, 1) := by decide +kernel
theorem dJ6_bitCount_0f7a4_47 : decode cJ6_bitCount_0f7a4 47 = .ok (.istore_n 0, 1) := by decide +kernel
theorem dJ6_bitCount_0f7a4_48 : decode cJ6_bitCount_0f7a4 48 = .ok (.iload_n 0, 1) := by decide +kernel
theorem dJ6_bitCount_0f7a4_49 : decode cJ6_bitCount_0f7a4 49 = .ok (.bipush 63, 2) := by decide +kernel
theorem dJ6_bitCount_0f7a4_51 : decode cJ6_bitCount_0f7a4 51 = .ok (.iand, 1) := by decide +kernel
theorem dJ6_bitCount_0f7a4_52 : decode cJ6_bitCount_0f7a4 52 = .ok (.ireturn, 1) := by decide +kernel
theorem dJ9_abs_0f7a4_0 : decode cJ9_abs_0f7a4 0 = .ok (.iload_n 0, 1) := by decide +kernel
theorem dJ9_abs_0f7a4_1 : decode cJ9_abs_0f7a4 1 = .ok (.ifCond .ge 8, 3) := by decide +kernel
theorem dJ9_abs_0f7a4_4 : decode cJ9_abs_0f7a4 4 = .ok (.iload_n 0, 1) := by decide +kernel
theorem dJ9_abs_0f7a4_5 : decode cJ9_abs_0f7a4 5 = .ok (.ineg, 1) := by decide +kernel
theorem dJ9_abs_0f7a4_6 : decode cJ9_abs_0f7a4 6 = .ok (.goto 4, 3) := by decide +kernel
theorem dJ9_abs_0f7a4_9 : decode cJ9_abs_0f7a4 9 = .ok (.iload_n 0, 1) := by decide +kernel
theorem dJ9_abs_0f7a4_10 : decode cJ9_abs_0f7a4 10 = .ok (.ireturn, 1) := by decide +kernel
theorem dJ9_max_7cf53_0 : decode cJ9_max_7cf53 0 = .ok (.iload_n 0, 1) := by decide +kernel
theorem dJ9_max_7cf53_1 : decode cJ9_max_7cf53 1 = .ok (.iload_n 1, 1) := by decide +kernel
theorem dJ9_max_7cf53_2 : decode cJ9_max_7cf53 2 = .ok (.if_icmp .lt 7, 3) := by decide +kernel
theorem dJ9_max_7cf53_5 : decode cJ9_max_7cf53 5 = .ok (.iload_n 0, 1) := by decide +kernel
theorem dJ9_max_7cf53_6 : decode cJ9_max_7cf53 6 = .ok (.goto 4, 3) := by decide +kernel
theorem dJ9_max_7cf53_9 : decode cJ9_max_7cf53 9 = .ok (.iload_n 1, 1) := by decide +kernel
theorem dJ9_max_7cf53_10 : decode cJ9_max_7cf53 10 = .ok (.ireturn, 1) := by decide +kernel
theorem dJ9_min_7cf53_0 : decode cJ9_min_7cf53 0 = .ok (.iload_n 0, 1) := by decide +kernel
theorem dJ9_min_7cf53_1 : decode cJ9_min_7cf53 1 = .ok (.iload_n 1, 1) := by decide +kernel
theorem dJ9_min_7cf53_2 : decode cJ9_min_7cf53 2 = .ok (.if_icmp .gt 7, 3) := by decide +kernel
theorem dJ9_min_7cf53_5 : decode cJ9_min_7cf53 5 = .ok (.iload_n 0, 1) := by decide +kernel
theorem dJ9_min_7cf53_6 : decode cJ9_min_7cf53 6 = .ok (.goto 4, 3) := by decide +kernel
theorem dJ9_min_7cf53_9 : decode cJ9_min_7cf53 9 = .ok (.iload_n 1, 1) := by decide +kernel
theorem dJ9_min_7cf53_10 : decode cJ9_min_7cf53 10 = .ok (.ireturn, 1) := by decide +kernel
