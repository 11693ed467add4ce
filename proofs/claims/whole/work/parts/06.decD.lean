theorem dX7_notes_24 : decode cX7_notes 24 = .ok (.getfield 61, 3) := by decide +kernel
theorem dX7_notes_27 : decode cX7_notes 27 = .ok (.iload_n 1, 1) := by decide +kernel
theorem dX7_notes_28 : decode cX7_notes 28 = .ok (.bipush 52, 2) := by decide +kernel
theorem dX7_notes_30 : decode cX7_notes 30 = .ok (.iadd, 1) := by decide +kernel
theorem dX7_notes_31 : decode cX7_notes 31 = .ok (.iaload, 1) := by decide +kernel
theorem dX7_notes_32 : decode cX7_notes 32 = .ok (.iastore, 1) := by decide +kernel
theorem dX7_notes_33 : decode cX7_notes 33 = .ok (.iinc 1 1, 3) := by decide +kernel
theorem dX7_notes_36 : decode cX7_notes 36 = .ok (.goto (-25), 3) := by decide +kernel
theorem dX7_notes_39 : decode cX7_notes 39 = .ok (.aload_n 0, 1) := by decide +kernel
theorem dX7_notes_40 : decode cX7_notes 40 = .ok (.dup, 1) := by decide +kernel
theorem dX7_notes_41 : decode cX7_notes 41 = .ok (.getfield 145, 3) := by decide +kernel
theorem dX7_notes_44 : decode cX7_notes 44 = .ok (.iconst 1, 1) := by decide +kernel
theorem dX7_notes_45 : decode cX7_notes 45 = .ok (.isub, 1) := by decide +kernel
theorem dX7_notes_46 : decode cX7_notes 46 = .ok (.putfield 145, 3) := by decide +kernel
theorem dX7_notes_49 : decode cX7_notes 49 = .ok (.aload_n 0, 1) := by decide +kernel
theorem dX7_notes_50 : decode cX7_notes 50 = .ok (.aload_n 0, 1) := by decide +kernel
theorem dX7_notes_51 : decode cX7_notes 51 = .ok (.getfield 61, 3) := by decide +kernel
theorem dX7_notes_54 : decode cX7_notes 54 = .ok (.bipush 52, 2) := by decide +kernel
theorem dX7_notes_56 : decode cX7_notes 56 = .ok (.aload_n 0, 1) := by decide +kernel
theorem dX7_notes_57 : decode cX7_notes 57 = .ok (.getfield 145, 3) := by decide +kernel
theorem dX7_notes_60 : decode cX7_notes 60 = .ok (.imul, 1) := by decide +kernel
theorem dX7_notes_61 : decode cX7_notes 61 = .ok (.invokevirtual 169, 3) := by decide +kernel
theorem dX7_notes_64 : decode cX7_notes 64 = .ok (.aload_n 0, 1) := by decide +kernel
theorem dX7_notes_65 : decode cX7_notes 65 = .ok (.dup, 1) := by decide +kernel
theorem dX7_notes_66 : decode cX7_notes 66 = .ok (.getfield 145, 3) := by decide +kernel
theorem dX7_notes_69 : decode cX7_notes 69 = .ok (.iconst 1, 1) := by decide +kernel
theorem dX7_notes_70 : decode cX7_notes 70 = .ok (.iadd, 1) := by decide +kernel
theorem dX7_notes_71 : decode cX7_notes 71 = .ok (.putfield 145, 3) := by decide +kernel
theorem dX7_notes_74 : decode cX7_notes 74 = .ok (.return_, 1) := by decide +kernel
theorem dX7_isOpen_0 : decode cX7_isOpen 0 = .ok (.aload_n 0, 1) := by decide +kernel
theorem dX7_isOpen_1 : decode cX7_isOpen 1 = .ok (.getfield 43, 3) := by decide +kernel
theorem dX7_isOpen_4 : decode cX7_isOpen 4 = .ok (.iload_n 1, 1) := by decide +kernel
theorem dX7_isOpen_5 : decode cX7_isOpen 5 = .ok (.iaload, 1) := by decide +kernel
theorem dX7_isOpen_6 : decode cX7_isOpen 6 = .ok (.ifCond .ne 18, 3) := by decide +kernel
theorem dX7_isOpen_9 : decode cX7_isOpen 9 = .ok (.aload_n 0, 1) := by decide +kernel
theorem dX7_isOpen_10 : decode cX7_isOpen 10 = .ok (.getfield 31, 3) := by decide +kernel
theorem dX7_isOpen_13 : decode cX7_isOpen 13 = .ok (.iload_n 1, 1) := by decide +kernel
theorem dX7_isOpen_14 : decode cX7_isOpen 14 = .ok (.iaload, 1) := by decide +kernel
theorem dX7_isOpen_15 : decode cX7_isOpen 15 = .ok (.bipush (-4), 2) := by decide +kernel
theorem dX7_isOpen_17 : decode cX7_isOpen 17 = .ok (.if_icmp .ne 7, 3) := by decide +kernel
theorem dX7_isOpen_20 : decode cX7_isOpen 20 = .ok (.iconst 1, 1) := by decide +kernel
theorem dX7_isOpen_21 : decode cX7_isOpen 21 = .ok (.goto 4, 3) := by decide +kernel
theorem dX7_isOpen_24 : decode cX7_isOpen 24 = .ok (.iconst 0, 1) := by decide +kernel
theorem dX7_isOpen_25 : decode cX7_isOpen 25 = .ok (.ireturn, 1) := by decide +kernel
theorem dX7_maySend_0 : decode cX7_maySend 0 = .ok (.aload_n 0, 1) := by decide +kernel
theorem dX7_maySend_1 : decode cX7_maySend 1 = .ok (.iload_n 1, 1) := by decide +kernel
theorem dX7_maySend_2 : decode cX7_maySend 2 = .ok (.invokevirtual 173, 3) := by decide +kernel
theorem dX7_maySend_5 : decode cX7_maySend 5 = .ok (.ifCond .eq 21, 3) := by decide +kernel
theorem dX7_maySend_8 : decode cX7_maySend 8 = .ok (.aload_n 0, 1) := by decide +kernel
theorem dX7_maySend_9 : decode cX7_maySend 9 = .ok (.getfield 91, 3) := by decide +kernel
theorem dX7_maySend_12 : decode cX7_maySend 12 = .ok (.ifCond .le 14, 3) := by decide +kernel
theorem dX7_maySend_15 : decode cX7_maySend 15 = .ok (.aload_n 0, 1) := by decide +kernel
theorem dX7_maySend_16 : decode cX7_maySend 16 = .ok (.getfield 94, 3) := by decide +kernel
theorem dX7_maySend_19 : decode cX7_maySend 19 = .ok (.ifCond .ne 7, 3) := by decide +kernel
theorem dX7_maySend_22 : decode cX7_maySend 22 = .ok (.iconst 1, 1) := by decide +kernel
theorem dX7_maySend_23 : decode cX7_maySend 23 = .ok (.goto 4, 3) := by decide +kernel
theorem dX7_maySend_26 : decode cX7_maySend 26 = .ok (.iconst 0, 1) := by decide +kernel
theorem dX7_maySend_27 : decode cX7_maySend 27 = .ok (.ireturn, 1) := by decide +kernel
theorem dX7_goesOut_0 : decode cX7_goesOut 0 = .ok (.aload_n 0, 1) := by decide +kernel
theorem dX7_goesOut_1 : decode cX7_goesOut 1 = .ok (.getfield 43, 3) := by decide +kernel
theorem dX7_goesOut_4 : decode cX7_goesOut 4 = .ok (.iload_n 1, 1) := by decide +kernel
theorem dX7_goesOut_5 : decode cX7_goesOut 5 = .ok (.iconst 1, 1) := by decide +kernel
theorem dX7_goesOut_6 : decode cX7_goesOut 6 = .ok (.iastore, 1) := by decide +kernel
theorem dX7_goesOut_7 : decode cX7_goesOut 7 = .ok (.aload_n 0, 1) := by decide +kernel
theorem dX7_goesOut_8 : decode cX7_goesOut 8 = .ok (.getfield 22, 3) := by decide +kernel
theorem dX7_goesOut_11 : decode cX7_goesOut 11 = .ok (.iload_n 1, 1) := by decide +kernel
theorem dX7_goesOut_12 : decode cX7_goesOut 12 = .ok (.iconst 1, 1) := by decide +kernel
theorem dX7_goesOut_13 : decode cX7_goesOut 13 = .ok (.iastore, 1) := by decide +kernel
theorem dX7_goesOut_14 : decode cX7_goesOut 14 = .ok (.aload_n 0, 1) := by decide +kernel
theorem dX7_goesOut_15 : decode cX7_goesOut 15 = .ok (.getfield 25, 3) := by decide +kernel
theorem dX7_goesOut_18 : decode cX7_goesOut 18 = .ok (.iload_n 1, 1) := by decide +kernel
theorem dX7_goesOut_19 : decode cX7_goesOut 19 = .ok (.aload_n 0, 1) := by decide +kernel
theorem dX7_goesOut_20 : decode cX7_goesOut 20 = .ok (.getfield 88, 3) := by decide +kernel
theorem dX7_goesOut_23 : decode cX7_goesOut 23 = .ok (.aload_n 0, 1) := by decide +kernel
theorem dX7_goesOut_24 : decode cX7_goesOut 24 = .ok (.getfield 13, 3) := by decide +kernel
theorem dX7_goesOut_27 : decode cX7_goesOut 27 = .ok (.iload_n 1, 1) := by decide +kernel
theorem dX7_goesOut_28 : decode cX7_goesOut 28 = .ok (.iaload, 1) := by decide +kernel
theorem dX7_goesOut_29 : decode cX7_goesOut 29 = .ok (.bipush 10, 2) := by decide +kernel
theorem dX7_goesOut_31 : decode cX7_goesOut 31 = .ok (.idiv, 1) := by decide +kernel
theorem dX7_goesOut_32 : decode cX7_goesOut 32 = .ok (.iadd, 1) := by decide +kernel
theorem dX7_goesOut_33 : decode cX7_goesOut 33 = .ok (.iconst 1, 1) := by decide +kernel
theorem dX7_goesOut_34 : decode cX7_goesOut 34 = .ok (.iadd, 1) := by decide +kernel
theorem dX7_goesOut_35 : decode cX7_goesOut 35 = .ok (.iastore, 1) := by decide +kernel
theorem dX7_goesOut_36 : decode cX7_goesOut 36 = .ok (.return_, 1) := by decide +kernel
theorem dX7_sends_0 : decode cX7_sends 0 = .ok (.aload_n 0, 1) := by decide +kernel
theorem dX7_sends_1 : decode cX7_sends 1 = .ok (.iload_n 1, 1) := by decide +kernel
theorem dX7_sends_2 : decode cX7_sends 2 = .ok (.invokevirtual 176, 3) := by decide +kernel
theorem dX7_sends_5 : decode cX7_sends 5 = .ok (.aload_n 0, 1) := by decide +kernel
theorem dX7_sends_6 : decode cX7_sends 6 = .ok (.dup, 1) := by decide +kernel
theorem dX7_sends_7 : decode cX7_sends 7 = .ok (.getfield 91, 3) := by decide +kernel
theorem dX7_sends_10 : decode cX7_sends 10 = .ok (.iconst 1, 1) := by decide +kernel
theorem dX7_sends_11 : decode cX7_sends 11 = .ok (.isub, 1) := by decide +kernel
theorem dX7_sends_12 : decode cX7_sends 12 = .ok (.putfield 91, 3) := by decide +kernel
theorem dX7_sends_15 : decode cX7_sends 15 = .ok (.aload_n 0, 1) := by decide +kernel
theorem dX7_sends_16 : decode cX7_sends 16 = .ok (.iconst 1, 1) := by decide +kernel
theorem dX7_sends_17 : decode cX7_sends 17 = .ok (.putfield 94, 3) := by decide +kernel
theorem dX7_sends_20 : decode cX7_sends 20 = .ok (.return_, 1) := by decide +kernel
theorem dX7_calls_0 : decode cX7_calls 0 = .ok (.aload_n 0, 1) := by decide +kernel
theorem dX7_calls_1 : decode cX7_calls 1 = .ok (.bipush 20, 2) := by decide +kernel
theorem dX7_calls_3 : decode cX7_calls 3 = .ok (.aload_n 0, 1) := by decide +kernel
theorem dX7_calls_4 : decode cX7_calls 4 = .ok (.getfield 91, 3) := by decide +kernel
theorem dX7_calls_7 : decode cX7_calls 7 = .ok (.aload_n 0, 1) := by decide +kernel
theorem dX7_calls_8 : decode cX7_calls 8 = .ok (.getfield 22, 3) := by decide +kernel
theorem dX7_calls_11 : decode cX7_calls 11 = .ok (.iload_n 1, 1) := by decide +kernel
theorem dX7_calls_12 : decode cX7_calls 12 = .ok (.iaload, 1) := by decide +kernel
theorem dX7_calls_13 : decode cX7_calls 13 = .ok (.iadd, 1) := by decide +kernel
theorem dX7_calls_14 : decode cX7_calls 14 = .ok (.invokestatic 179, 3) := by decide +kernel
theorem dX7_calls_17 : decode cX7_calls 17 = .ok (.putfield 91, 3) := by decide +kernel
theorem dX7_calls_20 : decode cX7_calls 20 = .ok (.aload_n 0, 1) := by decide +kernel
theorem dX7_calls_21 : decode cX7_calls 21 = .ok (.getfield 22, 3) := by decide +kernel
theorem dX7_calls_24 : decode cX7_calls 24 = .ok (.iload_n 1, 1) := by decide +kernel
theorem dX7_calls_25 : decode cX7_calls 25 = .ok (.iconst 0, 1) := by decide +kernel
theorem dX7_calls_26 : decode cX7_calls 26 = .ok (.iastore, 1) := by decide +kernel
theorem dX7_calls_27 : decode cX7_calls 27 = .ok (.aload_n 0, 1) := by decide +kernel
theorem dX7_calls_28 : decode cX7_calls 28 = .ok (.getfield 25, 3) := by decide +kernel
theorem dX7_calls_31 : decode cX7_calls 31 = .ok (.iload_n 1, 1) := by decide +kernel
theorem dX7_calls_32 : decode cX7_calls 32 = .ok (.bipush (-4), 2) := by decide +kernel
theorem dX7_calls_34 : decode cX7_calls 34 = .ok (.iastore, 1) := by decide +kernel
theorem dX7_calls_35 : decode cX7_calls 35 = .ok (.aload_n 0, 1) := by decide +kernel
theorem dX7_calls_36 : decode cX7_calls 36 = .ok (.getfield 43, 3) := by decide +kernel
theorem dX7_calls_39 : decode cX7_calls 39 = .ok (.iload_n 1, 1) := by decide +kernel
theorem dX7_calls_40 : decode cX7_calls 40 = .ok (.iconst 0, 1) := by decide +kernel
theorem dX7_calls_41 : decode cX7_calls 41 = .ok (.iastore, 1) := by decide +kernel
theorem dX7_calls_42 : decode cX7_calls 42 = .ok (.aload_n 0, 1) := by decide +kernel
theorem dX7_calls_43 : decode cX7_calls 43 = .ok (.getfield 40, 3) := by decide +kernel
theorem dX7_calls_46 : decode cX7_calls 46 = .ok (.iload_n 1, 1) := by decide +kernel
theorem dX7_calls_47 : decode cX7_calls 47 = .ok (.iconst 0, 1) := by decide +kernel
theorem dX7_calls_48 : decode cX7_calls 48 = .ok (.iastore, 1) := by decide +kernel
theorem dX7_calls_49 : decode cX7_calls 49 = .ok (.return_, 1) := by decide +kernel
theorem dX7_send_0 : decode cX7_send 0 = .ok (.aload_n 0, 1) := by decide +kernel
theorem dX7_send_1 : decode cX7_send 1 = .ok (.iload_n 1, 1) := by decide +kernel
theorem dX7_send_2 : decode cX7_send 2 = .ok (.invokevirtual 162, 3) := by decide +kernel
theorem dX7_send_5 : decode cX7_send 5 = .ok (.ifCond .ne 5, 3) := by decide +kernel
theorem dX7_send_8 : decode cX7_send 8 = .ok (.iconst (-1), 1) := by decide +kernel
theorem dX7_send_9 : decode cX7_send 9 = .ok (.ireturn, 1) := by decide +kernel
theorem dX7_send_10 : decode cX7_send 10 = .ok (.aload_n 0, 1) := by decide +kernel
theorem dX7_send_11 : decode cX7_send 11 = .ok (.iload_n 1, 1) := by decide +kernel
theorem dX7_send_12 : decode cX7_send 12 = .ok (.invokevirtual 182, 3) := by decide +kernel
theorem dX7_send_15 : decode cX7_send 15 = .ok (.ifCond .ne 6, 3) := by decide +kernel
theorem dX7_send_18 : decode cX7_send 18 = .ok (.bipush (-2), 2) := by decide +kernel
theorem dX7_send_20 : decode cX7_send 20 = .ok (.ireturn, 1) := by decide +kernel
theorem dX7_send_21 : decode cX7_send 21 = .ok (.aload_n 0, 1) := by decide +kernel
theorem dX7_send_22 : decode cX7_send 22 = .ok (.invokevirtual 185, 3) := by decide +kernel
theorem dX7_send_25 : decode cX7_send 25 = .ok (.aload_n 0, 1) := by decide +kernel
theorem dX7_send_26 : decode cX7_send 26 = .ok (.iload_n 1, 1) := by decide +kernel
theorem dX7_send_27 : decode cX7_send 27 = .ok (.invokevirtual 188, 3) := by decide +kernel
theorem dX7_send_30 : decode cX7_send 30 = .ok (.aload_n 0, 1) := by decide +kernel
theorem dX7_send_31 : decode cX7_send 31 = .ok (.getfield 25, 3) := by decide +kernel
theorem dX7_send_34 : decode cX7_send 34 = .ok (.iload_n 1, 1) := by decide +kernel
theorem dX7_send_35 : decode cX7_send 35 = .ok (.iaload, 1) := by decide +kernel
theorem dX7_send_36 : decode cX7_send 36 = .ok (.ireturn, 1) := by decide +kernel
theorem dX7_call_0 : decode cX7_call 0 = .ok (.aload_n 0, 1) := by decide +kernel
theorem dX7_call_1 : decode cX7_call 1 = .ok (.iload_n 1, 1) := by decide +kernel
theorem dX7_call_2 : decode cX7_call 2 = .ok (.invokevirtual 162, 3) := by decide +kernel
theorem dX7_call_5 : decode cX7_call 5 = .ok (.ifCond .ne 5, 3) := by decide +kernel
theorem dX7_call_8 : decode cX7_call 8 = .ok (.iconst (-1), 1) := by decide +kernel
theorem dX7_call_9 : decode cX7_call 9 = .ok (.ireturn, 1) := by decide +kernel
theorem dX7_call_10 : decode cX7_call 10 = .ok (.aload_n 0, 1) := by decide +kernel
theorem dX7_call_11 : decode cX7_call 11 = .ok (.getfield 22, 3) := by decide +kernel
theorem dX7_call_14 : decode cX7_call 14 = .ok (.iload_n 1, 1) := by decide +kernel
theorem dX7_call_15 : decode cX7_call 15 = .ok (.iaload, 1) := by decide +kernel
theorem dX7_call_16 : decode cX7_call 16 = .ok (.ifCond .ne 6, 3) := by decide +kernel
theorem dX7_call_19 : decode cX7_call 19 = .ok (.bipush (-2), 2) := by decide +kernel
theorem dX7_call_21 : decode cX7_call 21 = .ok (.ireturn, 1) := by decide +kernel
theorem dX7_call_22 : decode cX7_call 22 = .ok (.aload_n 0, 1) := by decide +kernel
theorem dX7_call_23 : decode cX7_call 23 = .ok (.invokevirtual 185, 3) := by decide +kernel
theorem dX7_call_26 : decode cX7_call 26 = .ok (.aload_n 0, 1) := by decide +kernel
theorem dX7_call_27 : decode cX7_call 27 = .ok (.iload_n 1, 1) := by decide +kernel
theorem dX7_call_28 : decode cX7_call 28 = .ok (.invokevirtual 191, 3) := by decide +kernel
theorem dX7_call_31 : decode cX7_call 31 = .ok (.aload_n 0, 1) := by decide +kernel
theorem dX7_call_32 : decode cX7_call 32 = .ok (.getfield 91, 3) := by decide +kernel
theorem dX7_call_35 : decode cX7_call 35 = .ok (.ireturn, 1) := by decide +kernel
theorem dX7_buy_0 : decode cX7_buy 0 = .ok (.aload_n 0, 1) := by decide +kernel
theorem dX7_buy_1 : decode cX7_buy 1 = .ok (.getfield 91, 3) := by decide +kernel
theorem dX7_buy_4 : decode cX7_buy 4 = .ok (.bipush 20, 2) := by decide +kernel
theorem dX7_buy_6 : decode cX7_buy 6 = .ok (.if_icmp .ne 6, 3) := by decide +kernel
theorem dX7_buy_9 : decode cX7_buy 9 = .ok (.bipush (-3), 2) := by decide +kernel
theorem dX7_buy_11 : decode cX7_buy 11 = .ok (.ireturn, 1) := by decide +kernel
theorem dX7_buy_12 : decode cX7_buy 12 = .ok (.aload_n 0, 1) := by decide +kernel
theorem dX7_buy_13 : decode cX7_buy 13 = .ok (.invokevirtual 185, 3) := by decide +kernel
theorem dX7_buy_16 : decode cX7_buy 16 = .ok (.aload_n 0, 1) := by decide +kernel
theorem dX7_buy_17 : decode cX7_buy 17 = .ok (.dup, 1) := by decide +kernel
theorem dX7_buy_18 : decode cX7_buy 18 = .ok (.getfield 91, 3) := by decide +kernel
theorem dX7_buy_21 : decode cX7_buy 21 = .ok (.iconst 1, 1) := by decide +kernel
theorem dX7_buy_22 : decode cX7_buy 22 = .ok (.iadd, 1) := by decide +kernel
theorem dX7_buy_23 : decode cX7_buy 23 = .ok (.putfield 91, 3) := by decide +kernel
theorem dX7_buy_26 : decode cX7_buy 26 = .ok (.aload_n 0, 1) := by decide +kernel
theorem dX7_buy_27 : decode cX7_buy 27 = .ok (.getfield 91, 3) := by decide +kernel
theorem dX7_buy_30 : decode cX7_buy 30 = .ok (.ireturn, 1) := by decide +kernel
theorem dX7_pass_0 : decode cX7_pass 0 = .ok (.iload_n 1, 1) := by decide +kernel
theorem dX7_pass_1 : decode cX7_pass 1 = .ok (.iconst 1, 1) := by decide +kernel
theorem dX7_pass_2 : decode cX7_pass 2 = .ok (.bipush 20, 2) := by decide +kernel
theorem dX7_pass_4 : decode cX7_pass 4 = .ok (.invokestatic 100, 3) := by decide +kernel
theorem dX7_pass_7 : decode cX7_pass 7 = .ok (.ifCond .ne 5, 3) := by decide +kernel
theorem dX7_pass_10 : decode cX7_pass 10 = .ok (.iconst (-1), 1) := by decide +kernel
theorem dX7_pass_11 : decode cX7_pass 11 = .ok (.ireturn, 1) := by decide +kernel
theorem dX7_pass_12 : decode cX7_pass 12 = .ok (.aload_n 0, 1) := by decide +kernel
theorem dX7_pass_13 : decode cX7_pass 13 = .ok (.getfield 88, 3) := by decide +kernel
theorem dX7_pass_16 : decode cX7_pass 16 = .ok (.iload_n 1, 1) := by decide +kernel
theorem dX7_pass_17 : decode cX7_pass 17 = .ok (.iadd, 1) := by decide +kernel
theorem dX7_pass_18 : decode cX7_pass 18 = .ok (.sipush 999, 3) := by decide +kernel
theorem dX7_pass_21 : decode cX7_pass 21 = .ok (.if_icmp .le 6, 3) := by decide +kernel
theorem dX7_pass_24 : decode cX7_pass 24 = .ok (.bipush (-2), 2) := by decide +kernel
theorem dX7_pass_26 : decode cX7_pass 26 = .ok (.ireturn, 1) := by decide +kernel
theorem dX7_pass_27 : decode cX7_pass 27 = .ok (.aload_n 0, 1) := by decide +kernel
theorem dX7_pass_28 : decode cX7_pass 28 = .ok (.invokevirtual 185, 3) := by decide +kernel
theorem dX7_pass_31 : decode cX7_pass 31 = .ok (.aload_n 0, 1) := by decide +kernel
theorem dX7_pass_32 : decode cX7_pass 32 = .ok (.iload_n 1, 1) := by decide +kernel
theorem dX7_pass_33 : decode cX7_pass 33 = .ok (.invokevirtual 194, 3) := by decide +kernel
theorem dX7_pass_36 : decode cX7_pass 36 = .ok (.ireturn, 1) := by decide +kernel
theorem dX7_undo_0 : decode cX7_undo 0 = .ok (.aload_n 0, 1) := by decide +kernel
theorem dX7_undo_1 : decode cX7_undo 1 = .ok (.getfield 145, 3) := by decide +kernel
theorem dX7_undo_4 : decode cX7_undo 4 = .ok (.ifCond .ne 6, 3) := by decide +kernel
theorem dX7_undo_7 : decode cX7_undo 7 = .ok (.bipush (-2), 2) := by decide +kernel
theorem dX7_undo_9 : decode cX7_undo 9 = .ok (.ireturn, 1) := by decide +kernel
theorem dX7_undo_10 : decode cX7_undo 10 = .ok (.aload_n 0, 1) := by decide +kernel
theorem dX7_undo_11 : decode cX7_undo 11 = .ok (.dup, 1) := by decide +kernel
theorem dX7_undo_12 : decode cX7_undo 12 = .ok (.getfield 145, 3) := by decide +kernel
theorem dX7_undo_15 : decode cX7_undo 15 = .ok (.iconst 1, 1) := by decide +kernel
theorem dX7_undo_16 : decode cX7_undo 16 = .ok (.isub, 1) := by decide +kernel
theorem dX7_undo_17 : decode cX7_undo 17 = .ok (.putfield 145, 3) := by decide +kernel
theorem dX7_undo_20 : decode cX7_undo 20 = .ok (.aload_n 0, 1) := by decide +kernel
theorem dX7_undo_21 : decode cX7_undo 21 = .ok (.aload_n 0, 1) := by decide +kernel
theorem dX7_undo_22 : decode cX7_undo 22 = .ok (.getfield 61, 3) := by decide +kernel
theorem dX7_undo_25 : decode cX7_undo 25 = .ok (.bipush 52, 2) := by decide +kernel
theorem dX7_undo_27 : decode cX7_undo 27 = .ok (.aload_n 0, 1) := by decide +kernel
theorem dX7_undo_28 : decode cX7_undo 28 = .ok (.getfield 145, 3) := by decide +kernel
theorem dX7_undo_31 : decode cX7_undo 31 = .ok (.imul, 1) := by decide +kernel
theorem dX7_undo_32 : decode cX7_undo 32 = .ok (.invokevirtual 198, 3) := by decide +kernel
theorem dX7_undo_35 : decode cX7_undo 35 = .ok (.aload_n 0, 1) := by decide +kernel
theorem dX7_undo_36 : decode cX7_undo 36 = .ok (.getfield 145, 3) := by decide +kernel
theorem dX7_undo_39 : decode cX7_undo 39 = .ok (.ireturn, 1) := by decide +kernel
theorem dX7_start_0 : decode cX7_start 0 = .ok (.aload_n 0, 1) := by decide +kernel
theorem dX7_start_1 : decode cX7_start 1 = .ok (.aload_n 0, 1) := by decide +kernel
theorem dX7_start_2 : decode cX7_start 2 = .ok (.getfield 64, 3) := by decide +kernel
theorem dX7_start_5 : decode cX7_start 5 = .ok (.iconst 0, 1) := by decide +kernel
theorem dX7_start_6 : decode cX7_start 6 = .ok (.invokevirtual 169, 3) := by decide +kernel
theorem dX7_start_9 : decode cX7_start 9 = .ok (.return_, 1) := by decide +kernel
theorem dX7_putBack_0 : decode cX7_putBack 0 = .ok (.aload_n 0, 1) := by decide +kernel
theorem dX7_putBack_1 : decode cX7_putBack 1 = .ok (.aload_n 0, 1) := by decide +kernel
theorem dX7_putBack_2 : decode cX7_putBack 2 = .ok (.getfield 64, 3) := by decide +kernel
theorem dX7_putBack_5 : decode cX7_putBack 5 = .ok (.iconst 0, 1) := by decide +kernel
theorem dX7_putBack_6 : decode cX7_putBack 6 = .ok (.invokevirtual 198, 3) := by decide +kernel
theorem dX7_putBack_9 : decode cX7_putBack 9 = .ok (.return_, 1) := by decide +kernel
theorem dX7_behind_0 : decode cX7_behind 0 = .ok (.iload_n 1, 1) := by decide +kernel
theorem dX7_behind_1 : decode cX7_behind 1 = .ok (.iconst 0, 1) := by decide +kernel
theorem dX7_behind_2 : decode cX7_behind 2 = .ok (.bipush 60, 2) := by decide +kernel
theorem dX7_behind_4 : decode cX7_behind 4 = .ok (.invokestatic 100, 3) := by decide +kernel
theorem dX7_behind_7 : decode cX7_behind 7 = .ok (.ifCond .eq 12, 3) := by decide +kernel
theorem dX7_behind_10 : decode cX7_behind 10 = .ok (.iload_n 2, 1) := by decide +kernel
theorem dX7_behind_11 : decode cX7_behind 11 = .ok (.iconst 0, 1) := by decide +kernel
theorem dX7_behind_12 : decode cX7_behind 12 = .ok (.iconst 2, 1) := by decide +kernel
theorem dX7_behind_13 : decode cX7_behind 13 = .ok (.invokestatic 100, 3) := by decide +kernel
theorem dX7_behind_16 : decode cX7_behind 16 = .ok (.ifCond .ne 5, 3) := by decide +kernel
theorem dX7_behind_19 : decode cX7_behind 19 = .ok (.iconst (-1), 1) := by decide +kernel
theorem dX7_behind_20 : decode cX7_behind 20 = .ok (.ireturn, 1) := by decide +kernel
theorem dX7_behind_21 : decode cX7_behind 21 = .ok (.aload_n 0, 1) := by decide +kernel
theorem dX7_behind_22 : decode cX7_behind 22 = .ok (.invokevirtual 201, 3) := by decide +kernel
theorem dX7_behind_25 : decode cX7_behind 25 = .ok (.aload_n 0, 1) := by decide +kernel
theorem dX7_behind_26 : decode cX7_behind 26 = .ok (.iload_n 1, 1) := by decide +kernel
theorem dX7_behind_27 : decode cX7_behind 27 = .ok (.invokevirtual 194, 3) := by decide +kernel
theorem dX7_behind_30 : decode cX7_behind 30 = .ok (.pop, 1) := by decide +kernel
theorem dX7_behind_31 : decode cX7_behind 31 = .ok (.iload_n 2, 1) := by decide +kernel
theorem dX7_behind_32 : decode cX7_behind 32 = .ok (.ifCond .ne 10, 3) := by decide +kernel
theorem dX7_behind_35 : decode cX7_behind 35 = .ok (.aload_n 0, 1) := by decide +kernel
theorem dX7_behind_36 : decode cX7_behind 36 = .ok (.invokevirtual 204, 3) := by decide +kernel
theorem dX7_behind_39 : decode cX7_behind 39 = .ok (.goto 19, 3) := by decide +kernel
theorem dX7_behind_42 : decode cX7_behind 42 = .ok (.iload_n 2, 1) := by decide +kernel
theorem dX7_behind_43 : decode cX7_behind 43 = .ok (.iconst 1, 1) := by decide +kernel
theorem dX7_behind_44 : decode cX7_behind 44 = .ok (.if_icmp .ne 10, 3) := by decide +kernel
theorem dX7_behind_47 : decode cX7_behind 47 = .ok (.aload_n 0, 1) := by decide +kernel
theorem dX7_behind_48 : decode cX7_behind 48 = .ok (.invokevirtual 207, 3) := by decide +kernel
theorem dX7_behind_51 : decode cX7_behind 51 = .ok (.goto 7, 3) := by decide +kernel
theorem dX7_behind_54 : decode cX7_behind 54 = .ok (.aload_n 0, 1) := by decide +kernel
theorem dX7_behind_55 : decode cX7_behind 55 = .ok (.invokevirtual 210, 3) := by decide +kernel
theorem dX7_behind_58 : decode cX7_behind 58 = .ok (.istore_n 3, 1) := by decide +kernel
theorem dX7_behind_59 : decode cX7_behind 59 = .ok (.aload_n 0, 1) := by decide +kernel
theorem dX7_behind_60 : decode cX7_behind 60 = .ok (.invokevirtual 213, 3) := by decide +kernel
theorem dX7_behind_63 : decode cX7_behind 63 = .ok (.iload_n 3, 1) := by decide +kernel
theorem dX7_behind_64 : decode cX7_behind 64 = .ok (.ireturn, 1) := by decide +kernel
theorem dX7_when_0 : decode cX7_when 0 = .ok (.aload_n 0, 1) := by decide +kernel
theorem dX7_when_1 : decode cX7_when 1 = .ok (.iload_n 1, 1) := by decide +kernel
theorem dX7_when_2 : decode cX7_when 2 = .ok (.invokevirtual 162, 3) := by decide +kernel
theorem dX7_when_5 : decode cX7_when 5 = .ok (.ifCond .ne 5, 3) := by decide +kernel
theorem dX7_when_8 : decode cX7_when 8 = .ok (.iconst (-1), 1) := by decide +kernel
theorem dX7_when_9 : decode cX7_when 9 = .ok (.ireturn, 1) := by decide +kernel
theorem dX7_when_10 : decode cX7_when 10 = .ok (.aload_n 0, 1) := by decide +kernel
theorem dX7_when_11 : decode cX7_when 11 = .ok (.invokevirtual 201, 3) := by decide +kernel
theorem dX7_when_14 : decode cX7_when 14 = .ok (.iconst 0, 1) := by decide +kernel
theorem dX7_when_15 : decode cX7_when 15 = .ok (.istore_n 2, 1) := by decide +kernel
theorem dX7_when_16 : decode cX7_when 16 = .ok (.iload_n 2, 1) := by decide +kernel
theorem dX7_when_17 : decode cX7_when 17 = .ok (.bipush 60, 2) := by decide +kernel
theorem dX7_when_19 : decode cX7_when 19 = .ok (.if_icmp .ge 26, 3) := by decide +kernel
theorem dX7_when_22 : decode cX7_when 22 = .ok (.aload_n 0, 1) := by decide +kernel
theorem dX7_when_23 : decode cX7_when 23 = .ok (.getfield 31, 3) := by decide +kernel
theorem dX7_when_26 : decode cX7_when 26 = .ok (.iload_n 1, 1) := by decide +kernel
theorem dX7_when_27 : decode cX7_when 27 = .ok (.iaload, 1) := by decide +kernel
theorem dX7_when_28 : decode cX7_when 28 = .ok (.bipush (-4), 2) := by decide +kernel
theorem dX7_when_30 : decode cX7_when 30 = .ok (.if_icmp .ne 15, 3) := by decide +kernel
theorem dX7_when_33 : decode cX7_when 33 = .ok (.aload_n 0, 1) := by decide +kernel
theorem dX7_when_34 : decode cX7_when 34 = .ok (.iconst 0, 1) := by decide +kernel
theorem dX7_when_35 : decode cX7_when 35 = .ok (.invokevirtual 158, 3) := by decide +kernel
theorem dX7_when_38 : decode cX7_when 38 = .ok (.pop, 1) := by decide +kernel
theorem dX7_when_39 : decode cX7_when 39 = .ok (.iinc 2 1, 3) := by decide +kernel
theorem dX7_when_42 : decode cX7_when 42 = .ok (.goto (-26), 3) := by decide +kernel
theorem dX7_when_45 : decode cX7_when 45 = .ok (.aload_n 0, 1) := by decide +kernel
theorem dX7_when_46 : decode cX7_when 46 = .ok (.getfield 31, 3) := by decide +kernel
theorem dX7_when_49 : decode cX7_when 49 = .ok (.iload_n 1, 1) := by decide +kernel
theorem dX7_when_50 : decode cX7_when 50 = .ok (.iaload, 1) := by decide +kernel
theorem dX7_when_51 : decode cX7_when 51 = .ok (.bipush (-4), 2) := by decide +kernel
theorem dX7_when_53 : decode cX7_when 53 = .ok (.if_icmp .eq 7, 3) := by decide +kernel
theorem dX7_when_56 : decode cX7_when 56 = .ok (.iconst 1, 1) := by decide +kernel
theorem dX7_when_57 : decode cX7_when 57 = .ok (.goto 4, 3) := by decide +kernel
theorem dX7_when_60 : decode cX7_when 60 = .ok (.iconst 0, 1) := by decide +kernel
theorem dX7_when_61 : decode cX7_when 61 = .ok (.istore_n 3, 1) := by decide +kernel
theorem dX7_when_62 : decode cX7_when 62 = .ok (.aload_n 0, 1) := by decide +kernel
theorem dX7_when_63 : decode cX7_when 63 = .ok (.invokevirtual 213, 3) := by decide +kernel
theorem dX7_when_66 : decode cX7_when 66 = .ok (.iload_n 3, 1) := by decide +kernel
theorem dX7_when_67 : decode cX7_when 67 = .ok (.ifCond .eq 7, 3) := by decide +kernel
theorem dX7_when_70 : decode cX7_when 70 = .ok (.iload_n 2, 1) := by decide +kernel
theorem dX7_when_71 : decode cX7_when 71 = .ok (.goto 5, 3) := by decide +kernel
theorem dX7_when_74 : decode cX7_when 74 = .ok (.bipush (-4), 2) := by decide +kernel
theorem dX7_when_76 : decode cX7_when 76 = .ok (.ireturn, 1) := by decide +kernel
theorem dX7_gentle_0 : decode cX7_gentle 0 = .ok (.aload_n 0, 1) := by decide +kernel
theorem dX7_gentle_1 : decode cX7_gentle 1 = .ok (.invokevirtual 201, 3) := by decide +kernel
theorem dX7_gentle_4 : decode cX7_gentle 4 = .ok (.aload_n 0, 1) := by decide +kernel
theorem dX7_gentle_5 : decode cX7_gentle 5 = .ok (.bipush 60, 2) := by decide +kernel
theorem dX7_gentle_7 : decode cX7_gentle 7 = .ok (.invokevirtual 194, 3) := by decide +kernel
theorem dX7_gentle_10 : decode cX7_gentle 10 = .ok (.pop, 1) := by decide +kernel
theorem dX7_gentle_11 : decode cX7_gentle 11 = .ok (.aload_n 0, 1) := by decide +kernel
theorem dX7_gentle_12 : decode cX7_gentle 12 = .ok (.invokevirtual 216, 3) := by decide +kernel
theorem dX7_gentle_15 : decode cX7_gentle 15 = .ok (.istore_n 1, 1) := by decide +kernel
theorem dX7_gentle_16 : decode cX7_gentle 16 = .ok (.aload_n 0, 1) := by decide +kernel
theorem dX7_gentle_17 : decode cX7_gentle 17 = .ok (.invokevirtual 213, 3) := by decide +kernel
theorem dX7_gentle_20 : decode cX7_gentle 20 = .ok (.iload_n 1, 1) := by decide +kernel
theorem dX7_gentle_21 : decode cX7_gentle 21 = .ok (.ireturn, 1) := by decide +kernel
theorem dX7_isSoftBy_0 : decode cX7_isSoftBy 0 = .ok (.aload_n 0, 1) := by decide +kernel
theorem dX7_isSoftBy_1 : decode cX7_isSoftBy 1 = .ok (.invokevirtual 201, 3) := by decide +kernel
theorem dX7_isSoftBy_4 : decode cX7_isSoftBy 4 = .ok (.aload_n 0, 1) := by decide +kernel
theorem dX7_isSoftBy_5 : decode cX7_isSoftBy 5 = .ok (.iload_n 2, 1) := by decide +kernel
theorem dX7_isSoftBy_6 : decode cX7_isSoftBy 6 = .ok (.invokevirtual 194, 3) := by decide +kernel
theorem dX7_isSoftBy_9 : decode cX7_isSoftBy 9 = .ok (.pop, 1) := by decide +kernel
theorem dX7_isSoftBy_10 : decode cX7_isSoftBy 10 = .ok (.aload_n 0, 1) := by decide +kernel
theorem dX7_isSoftBy_11 : decode cX7_isSoftBy 11 = .ok (.getfield 31, 3) := by decide +kernel
theorem dX7_isSoftBy_14 : decode cX7_isSoftBy 14 = .ok (.iload_n 1, 1) := by decide +kernel
theorem dX7_isSoftBy_15 : decode cX7_isSoftBy 15 = .ok (.iaload, 1) := by decide +kernel
theorem dX7_isSoftBy_16 : decode cX7_isSoftBy 16 = .ok (.bipush (-4), 2) := by decide +kernel
theorem dX7_isSoftBy_18 : decode cX7_isSoftBy 18 = .ok (.if_icmp .ne 7, 3) := by decide +kernel
theorem dX7_isSoftBy_21 : decode cX7_isSoftBy 21 = .ok (.iconst 1, 1) := by decide +kernel
theorem dX7_isSoftBy_22 : decode cX7_isSoftBy 22 = .ok (.goto 4, 3) := by decide +kernel
theorem dX7_isSoftBy_25 : decode cX7_isSoftBy 25 = .ok (.iconst 0, 1) := by decide +kernel
theorem dX7_isSoftBy_26 : decode cX7_isSoftBy 26 = .ok (.istore_n 3, 1) := by decide +kernel
theorem dX7_isSoftBy_27 : decode cX7_isSoftBy 27 = .ok (.iload_n 3, 1) := by decide +kernel
theorem dX7_isSoftBy_28 : decode cX7_isSoftBy 28 = .ok (.ifCond .eq 33, 3) := by decide +kernel
theorem dX7_isSoftBy_31 : decode cX7_isSoftBy 31 = .ok (.aload_n 0, 1) := by decide +kernel
theorem dX7_isSoftBy_32 : decode cX7_isSoftBy 32 = .ok (.iload_n 1, 1) := by decide +kernel
theorem dX7_isSoftBy_33 : decode cX7_isSoftBy 33 = .ok (.invokevirtual 176, 3) := by decide +kernel
theorem dX7_isSoftBy_36 : decode cX7_isSoftBy 36 = .ok (.aload_n 0, 1) := by decide +kernel
theorem dX7_isSoftBy_37 : decode cX7_isSoftBy 37 = .ok (.bipush 60, 2) := by decide +kernel
theorem dX7_isSoftBy_39 : decode cX7_isSoftBy 39 = .ok (.iload_n 2, 1) := by decide +kernel
theorem dX7_isSoftBy_40 : decode cX7_isSoftBy 40 = .ok (.isub, 1) := by decide +kernel
theorem dX7_isSoftBy_41 : decode cX7_isSoftBy 41 = .ok (.invokevirtual 194, 3) := by decide +kernel
theorem dX7_isSoftBy_44 : decode cX7_isSoftBy 44 = .ok (.pop, 1) := by decide +kernel
theorem dX7_isSoftBy_45 : decode cX7_isSoftBy 45 = .ok (.aload_n 0, 1) := by decide +kernel
theorem dX7_isSoftBy_46 : decode cX7_isSoftBy 46 = .ok (.getfield 34, 3) := by decide +kernel
theorem dX7_isSoftBy_49 : decode cX7_isSoftBy 49 = .ok (.iload_n 1, 1) := by decide +kernel
theorem dX7_isSoftBy_50 : decode cX7_isSoftBy 50 = .ok (.iaload, 1) := by decide +kernel
theorem dX7_isSoftBy_51 : decode cX7_isSoftBy 51 = .ok (.iconst 1, 1) := by decide +kernel
theorem dX7_isSoftBy_52 : decode cX7_isSoftBy 52 = .ok (.if_icmp .ne 7, 3) := by decide +kernel
theorem dX7_isSoftBy_55 : decode cX7_isSoftBy 55 = .ok (.iconst 1, 1) := by decide +kernel
theorem dX7_isSoftBy_56 : decode cX7_isSoftBy 56 = .ok (.goto 4, 3) := by decide +kernel
theorem dX7_isSoftBy_59 : decode cX7_isSoftBy 59 = .ok (.iconst 0, 1) := by decide +kernel
theorem dX7_isSoftBy_60 : decode cX7_isSoftBy 60 = .ok (.istore_n 3, 1) := by decide +kernel
theorem dX7_isSoftBy_61 : decode cX7_isSoftBy 61 = .ok (.aload_n 0, 1) := by decide +kernel
theorem dX7_isSoftBy_62 : decode cX7_isSoftBy 62 = .ok (.invokevirtual 213, 3) := by decide +kernel
theorem dX7_isSoftBy_65 : decode cX7_isSoftBy 65 = .ok (.iload_n 3, 1) := by decide +kernel
theorem dX7_isSoftBy_66 : decode cX7_isSoftBy 66 = .ok (.ireturn, 1) := by decide +kernel
theorem dX7_latest_0 : decode cX7_latest 0 = .ok (.aload_n 0, 1) := by decide +kernel
theorem dX7_latest_1 : decode cX7_latest 1 = .ok (.iload_n 1, 1) := by decide +kernel
theorem dX7_latest_2 : decode cX7_latest 2 = .ok (.invokevirtual 162, 3) := by decide +kernel
theorem dX7_latest_5 : decode cX7_latest 5 = .ok (.ifCond .ne 5, 3) := by decide +kernel
theorem dX7_latest_8 : decode cX7_latest 8 = .ok (.iconst (-1), 1) := by decide +kernel
theorem dX7_latest_9 : decode cX7_latest 9 = .ok (.ireturn, 1) := by decide +kernel
theorem dX7_latest_10 : decode cX7_latest 10 = .ok (.aload_n 0, 1) := by decide +kernel
theorem dX7_latest_11 : decode cX7_latest 11 = .ok (.iload_n 1, 1) := by decide +kernel
theorem dX7_latest_12 : decode cX7_latest 12 = .ok (.invokevirtual 173, 3) := by decide +kernel
theorem dX7_latest_15 : decode cX7_latest 15 = .ok (.ifCond .ne 6, 3) := by decide +kernel
theorem dX7_latest_18 : decode cX7_latest 18 = .ok (.bipush (-2), 2) := by decide +kernel
theorem dX7_latest_20 : decode cX7_latest 20 = .ok (.ireturn, 1) := by decide +kernel
theorem dX7_latest_21 : decode cX7_latest 21 = .ok (.bipush 40, 2) := by decide +kernel
theorem dX7_latest_23 : decode cX7_latest 23 = .ok (.istore_n 2, 1) := by decide +kernel
theorem dX7_latest_24 : decode cX7_latest 24 = .ok (.iload_n 2, 1) := by decide +kernel
theorem dX7_latest_25 : decode cX7_latest 25 = .ok (.ifCond .lt 18, 3) := by decide +kernel
theorem dX7_latest_28 : decode cX7_latest 28 = .ok (.aload_n 0, 1) := by decide +kernel
theorem dX7_latest_29 : decode cX7_latest 29 = .ok (.iload_n 1, 1) := by decide +kernel
theorem dX7_latest_30 : decode cX7_latest 30 = .ok (.iload_n 2, 1) := by decide +kernel
theorem dX7_latest_31 : decode cX7_latest 31 = .ok (.invokevirtual 219, 3) := by decide +kernel
theorem dX7_latest_34 : decode cX7_latest 34 = .ok (.ifCond .ne 9, 3) := by decide +kernel
theorem dX7_latest_37 : decode cX7_latest 37 = .ok (.iinc 2 (-1), 3) := by decide +kernel
theorem dX7_latest_40 : decode cX7_latest 40 = .ok (.goto (-16), 3) := by decide +kernel
theorem dX7_latest_43 : decode cX7_latest 43 = .ok (.iload_n 2, 1) := by decide +kernel
theorem dX7_latest_44 : decode cX7_latest 44 = .ok (.ifCond .ge 8, 3) := by decide +kernel
theorem dX7_latest_47 : decode cX7_latest 47 = .ok (.bipush (-4), 2) := by decide +kernel
theorem dX7_latest_49 : decode cX7_latest 49 = .ok (.goto 4, 3) := by decide +kernel
theorem dX7_latest_52 : decode cX7_latest 52 = .ok (.iload_n 2, 1) := by decide +kernel
theorem dX7_latest_53 : decode cX7_latest 53 = .ok (.ireturn, 1) := by decide +kernel
theorem dX7_firstRow_0 : decode cX7_firstRow 0 = .ok (.aload_n 0, 1) := by decide +kernel
theorem dX7_firstRow_1 : decode cX7_firstRow 1 = .ok (.iconst 0, 1) := by decide +kernel
theorem dX7_firstRow_2 : decode cX7_firstRow 2 = .ok (.putfield 223, 3) := by decide +kernel
theorem dX7_firstRow_5 : decode cX7_firstRow 5 = .ok (.iconst 0, 1) := by decide +kernel
theorem dX7_firstRow_6 : decode cX7_firstRow 6 = .ok (.istore_n 1, 1) := by decide +kernel
theorem dX7_firstRow_7 : decode cX7_firstRow 7 = .ok (.iload_n 1, 1) := by decide +kernel
theorem dX7_firstRow_8 : decode cX7_firstRow 8 = .ok (.aload_n 0, 1) := by decide +kernel
theorem dX7_firstRow_9 : decode cX7_firstRow 9 = .ok (.getfield 84, 3) := by decide +kernel
theorem dX7_firstRow_12 : decode cX7_firstRow 12 = .ok (.if_icmp .ge 37, 3) := by decide +kernel
theorem dX7_firstRow_15 : decode cX7_firstRow 15 = .ok (.aload_n 0, 1) := by decide +kernel
theorem dX7_firstRow_16 : decode cX7_firstRow 16 = .ok (.iload_n 1, 1) := by decide +kernel
theorem dX7_firstRow_17 : decode cX7_firstRow 17 = .ok (.invokevirtual 173, 3) := by decide +kernel
theorem dX7_firstRow_20 : decode cX7_firstRow 20 = .ok (.ifCond .eq 23, 3) := by decide +kernel
theorem dX7_firstRow_23 : decode cX7_firstRow 23 = .ok (.aload_n 0, 1) := by decide +kernel
theorem dX7_firstRow_24 : decode cX7_firstRow 24 = .ok (.getfield 67, 3) := by decide +kernel
theorem dX7_firstRow_27 : decode cX7_firstRow 27 = .ok (.aload_n 0, 1) := by decide +kernel
theorem dX7_firstRow_28 : decode cX7_firstRow 28 = .ok (.getfield 223, 3) := by decide +kernel
theorem dX7_firstRow_31 : decode cX7_firstRow 31 = .ok (.iload_n 1, 1) := by decide +kernel
theorem dX7_firstRow_32 : decode cX7_firstRow 32 = .ok (.iastore, 1) := by decide +kernel
theorem dX7_firstRow_33 : decode cX7_firstRow 33 = .ok (.aload_n 0, 1) := by decide +kernel
theorem dX7_firstRow_34 : decode cX7_firstRow 34 = .ok (.dup, 1) := by decide +kernel
theorem dX7_firstRow_35 : decode cX7_firstRow 35 = .ok (.getfield 223, 3) := by decide +kernel
theorem dX7_firstRow_38 : decode cX7_firstRow 38 = .ok (.iconst 1, 1) := by decide +kernel
theorem dX7_firstRow_39 : decode cX7_firstRow 39 = .ok (.iadd, 1) := by decide +kernel
theorem dX7_firstRow_40 : decode cX7_firstRow 40 = .ok (.putfield 223, 3) := by decide +kernel
theorem dX7_firstRow_43 : decode cX7_firstRow 43 = .ok (.iinc 1 1, 3) := by decide +kernel
theorem dX7_firstRow_46 : decode cX7_firstRow 46 = .ok (.goto (-39), 3) := by decide +kernel
theorem dX7_firstRow_49 : decode cX7_firstRow 49 = .ok (.return_, 1) := by decide +kernel
theorem dX7_nextRow_0 : decode cX7_nextRow 0 = .ok (.aload_n 0, 1) := by decide +kernel
theorem dX7_nextRow_1 : decode cX7_nextRow 1 = .ok (.getfield 223, 3) := by decide +kernel
theorem dX7_nextRow_4 : decode cX7_nextRow 4 = .ok (.iconst 2, 1) := by decide +kernel
theorem dX7_nextRow_5 : decode cX7_nextRow 5 = .ok (.isub, 1) := by decide +kernel
theorem dX7_nextRow_6 : decode cX7_nextRow 6 = .ok (.istore_n 1, 1) := by decide +kernel
theorem dX7_nextRow_7 : decode cX7_nextRow 7 = .ok (.iload_n 1, 1) := by decide +kernel
theorem dX7_nextRow_8 : decode cX7_nextRow 8 = .ok (.ifCond .lt 26, 3) := by decide +kernel
theorem dX7_nextRow_11 : decode cX7_nextRow 11 = .ok (.aload_n 0, 1) := by decide +kernel
theorem dX7_nextRow_12 : decode cX7_nextRow 12 = .ok (.getfield 67, 3) := by decide +kernel
theorem dX7_nextRow_15 : decode cX7_nextRow 15 = .ok (.iload_n 1, 1) := by decide +kernel
theorem dX7_nextRow_16 : decode cX7_nextRow 16 = .ok (.iaload, 1) := by decide +kernel
theorem dX7_nextRow_17 : decode cX7_nextRow 17 = .ok (.aload_n 0, 1) := by decide +kernel
theorem dX7_nextRow_18 : decode cX7_nextRow 18 = .ok (.getfield 67, 3) := by decide +kernel
theorem dX7_nextRow_21 : decode cX7_nextRow 21 = .ok (.iload_n 1, 1) := by decide +kernel
theorem dX7_nextRow_22 : decode cX7_nextRow 22 = .ok (.iconst 1, 1) := by decide +kernel
theorem dX7_nextRow_23 : decode cX7_nextRow 23 = .ok (.iadd, 1) := by decide +kernel
theorem dX7_nextRow_24 : decode cX7_nextRow 24 = .ok (.iaload, 1) := by decide +kernel
theorem dX7_nextRow_25 : decode cX7_nextRow 25 = .ok (.if_icmp .le 9, 3) := by decide +kernel
theorem dX7_nextRow_28 : decode cX7_nextRow 28 = .ok (.iinc 1 (-1), 3) := by decide +kernel
theorem dX7_nextRow_31 : decode cX7_nextRow 31 = .ok (.goto (-24), 3) := by decide +kernel
theorem dX7_nextRow_34 : decode cX7_nextRow 34 = .ok (.iload_n 1, 1) := by decide +kernel
theorem dX7_nextRow_35 : decode cX7_nextRow 35 = .ok (.ifCond .ge 5, 3) := by decide +kernel
theorem dX7_nextRow_38 : decode cX7_nextRow 38 = .ok (.iconst 0, 1) := by decide +kernel
theorem dX7_nextRow_39 : decode cX7_nextRow 39 = .ok (.ireturn, 1) := by decide +kernel
theorem dX7_nextRow_40 : decode cX7_nextRow 40 = .ok (.aload_n 0, 1) := by decide +kernel
theorem dX7_nextRow_41 : decode cX7_nextRow 41 = .ok (.getfield 223, 3) := by decide +kernel
theorem dX7_nextRow_44 : decode cX7_nextRow 44 = .ok (.iconst 1, 1) := by decide +kernel
theorem dX7_nextRow_45 : decode cX7_nextRow 45 = .ok (.isub, 1) := by decide +kernel
theorem dX7_nextRow_46 : decode cX7_nextRow 46 = .ok (.istore_n 2, 1) := by decide +kernel
theorem dX7_nextRow_47 : decode cX7_nextRow 47 = .ok (.aload_n 0, 1) := by decide +kernel
theorem dX7_nextRow_48 : decode cX7_nextRow 48 = .ok (.getfield 67, 3) := by decide +kernel
theorem dX7_nextRow_51 : decode cX7_nextRow 51 = .ok (.iload_n 2, 1) := by decide +kernel
theorem dX7_nextRow_52 : decode cX7_nextRow 52 = .ok (.iaload, 1) := by decide +kernel
theorem dX7_nextRow_53 : decode cX7_nextRow 53 = .ok (.aload_n 0, 1) := by decide +kernel
theorem dX7_nextRow_54 : decode cX7_nextRow 54 = .ok (.getfield 67, 3) := by decide +kernel
theorem dX7_nextRow_57 : decode cX7_nextRow 57 = .ok (.iload_n 1, 1) := by decide +kernel
theorem dX7_nextRow_58 : decode cX7_nextRow 58 = .ok (.iaload, 1) := by decide +kernel
theorem dX7_nextRow_59 : decode cX7_nextRow 59 = .ok (.if_icmp .ge 9, 3) := by decide +kernel
theorem dX7_nextRow_62 : decode cX7_nextRow 62 = .ok (.iinc 2 (-1), 3) := by decide +kernel
theorem dX7_nextRow_65 : decode cX7_nextRow 65 = .ok (.goto (-18), 3) := by decide +kernel
theorem dX7_nextRow_68 : decode cX7_nextRow 68 = .ok (.aload_n 0, 1) := by decide +kernel
theorem dX7_nextRow_69 : decode cX7_nextRow 69 = .ok (.getfield 67, 3) := by decide +kernel
theorem dX7_nextRow_72 : decode cX7_nextRow 72 = .ok (.iload_n 1, 1) := by decide +kernel
theorem dX7_nextRow_73 : decode cX7_nextRow 73 = .ok (.iaload, 1) := by decide +kernel
theorem dX7_nextRow_74 : decode cX7_nextRow 74 = .ok (.istore_n 3, 1) := by decide +kernel
theorem dX7_nextRow_75 : decode cX7_nextRow 75 = .ok (.aload_n 0, 1) := by decide +kernel
theorem dX7_nextRow_76 : decode cX7_nextRow 76 = .ok (.getfield 67, 3) := by decide +kernel
theorem dX7_nextRow_79 : decode cX7_nextRow 79 = .ok (.iload_n 1, 1) := by decide +kernel
theorem dX7_nextRow_80 : decode cX7_nextRow 80 = .ok (.aload_n 0, 1) := by decide +kernel
theorem dX7_nextRow_81 : decode cX7_nextRow 81 = .ok (.getfield 67, 3) := by decide +kernel
theorem dX7_nextRow_84 : decode cX7_nextRow 84 = .ok (.iload_n 2, 1) := by decide +kernel
theorem dX7_nextRow_85 : decode cX7_nextRow 85 = .ok (.iaload, 1) := by decide +kernel
theorem dX7_nextRow_86 : decode cX7_nextRow 86 = .ok (.iastore, 1) := by decide +kernel
theorem dX7_nextRow_87 : decode cX7_nextRow 87 = .ok (.aload_n 0, 1) := by decide +kernel
theorem dX7_nextRow_88 : decode cX7_nextRow 88 = .ok (.getfield 67, 3) := by decide +kernel
theorem dX7_nextRow_91 : decode cX7_nextRow 91 = .ok (.iload_n 2, 1) := by decide +kernel
theorem dX7_nextRow_92 : decode cX7_nextRow 92 = .ok (.iload_n 3, 1) := by decide +kernel
theorem dX7_nextRow_93 : decode cX7_nextRow 93 = .ok (.iastore, 1) := by decide +kernel
theorem dX7_nextRow_94 : decode cX7_nextRow 94 = .ok (.aload_n 0, 1) := by decide +kernel
theorem dX7_nextRow_95 : decode cX7_nextRow 95 = .ok (.getfield 223, 3) := by decide +kernel
theorem dX7_nextRow_98 : decode cX7_nextRow 98 = .ok (.iconst 1, 1) := by decide +kernel
theorem dX7_nextRow_99 : decode cX7_nextRow 99 = .ok (.isub, 1) := by decide +kernel
theorem dX7_nextRow_100 : decode cX7_nextRow 100 = .ok (.istore 4, 2) := by decide +kernel
theorem dX7_nextRow_102 : decode cX7_nextRow 102 = .ok (.iload_n 1, 1) := by decide +kernel
theorem dX7_nextRow_103 : decode cX7_nextRow 103 = .ok (.iconst 1, 1) := by decide +kernel
theorem dX7_nextRow_104 : decode cX7_nextRow 104 = .ok (.iadd, 1) := by decide +kernel
theorem dX7_nextRow_105 : decode cX7_nextRow 105 = .ok (.istore 5, 2) := by decide +kernel
theorem dX7_nextRow_107 : decode cX7_nextRow 107 = .ok (.iload 5, 2) := by decide +kernel
theorem dX7_nextRow_109 : decode cX7_nextRow 109 = .ok (.iload 4, 2) := by decide +kernel
theorem dX7_nextRow_111 : decode cX7_nextRow 111 = .ok (.if_icmp .ge 44, 3) := by decide +kernel
theorem dX7_nextRow_114 : decode cX7_nextRow 114 = .ok (.aload_n 0, 1) := by decide +kernel
theorem dX7_nextRow_115 : decode cX7_nextRow 115 = .ok (.getfield 67, 3) := by decide +kernel
theorem dX7_nextRow_118 : decode cX7_nextRow 118 = .ok (.iload 5, 2) := by decide +kernel
theorem dX7_nextRow_120 : decode cX7_nextRow 120 = .ok (.iaload, 1) := by decide +kernel
theorem dX7_nextRow_121 : decode cX7_nextRow 121 = .ok (.istore 6, 2) := by decide +kernel
theorem dX7_nextRow_123 : decode cX7_nextRow 123 = .ok (.aload_n 0, 1) := by decide +kernel
theorem dX7_nextRow_124 : decode cX7_nextRow 124 = .ok (.getfield 67, 3) := by decide +kernel
theorem dX7_nextRow_127 : decode cX7_nextRow 127 = .ok (.iload 5, 2) := by decide +kernel
theorem dX7_nextRow_129 : decode cX7_nextRow 129 = .ok (.aload_n 0, 1) := by decide +kernel
theorem dX7_nextRow_130 : decode cX7_nextRow 130 = .ok (.getfield 67, 3) := by decide +kernel
theorem dX7_nextRow_133 : decode cX7_nextRow 133 = .ok (.iload 4, 2) := by decide +kernel
theorem dX7_nextRow_135 : decode cX7_nextRow 135 = .ok (.iaload, 1) := by decide +kernel
theorem dX7_nextRow_136 : decode cX7_nextRow 136 = .ok (.iastore, 1) := by decide +kernel
theorem dX7_nextRow_137 : decode cX7_nextRow 137 = .ok (.aload_n 0, 1) := by decide +kernel
theorem dX7_nextRow_138 : decode cX7_nextRow 138 = .ok (.getfield 67, 3) := by decide +kernel
theorem dX7_nextRow_141 : decode cX7_nextRow 141 = .ok (.iload 4, 2) := by decide +kernel
theorem dX7_nextRow_143 : decode cX7_nextRow 143 = .ok (.iload 6, 2) := by decide +kernel
theorem dX7_nextRow_145 : decode cX7_nextRow 145 = .ok (.iastore, 1) := by decide +kernel
theorem dX7_nextRow_146 : decode cX7_nextRow 146 = .ok (.iinc 4 (-1), 3) := by decide +kernel
theorem dX7_nextRow_149 : decode cX7_nextRow 149 = .ok (.iinc 5 1, 3) := by decide +kernel
theorem dX7_nextRow_152 : decode cX7_nextRow 152 = .ok (.goto (-45), 3) := by decide +kernel
theorem dX7_nextRow_155 : decode cX7_nextRow 155 = .ok (.iconst 1, 1) := by decide +kernel
theorem dX7_nextRow_156 : decode cX7_nextRow 156 = .ok (.ireturn, 1) := by decide +kernel
theorem dX7_gentleBy_0 : decode cX7_gentleBy 0 = .ok (.aload_n 0, 1) := by decide +kernel
theorem dX7_gentleBy_1 : decode cX7_gentleBy 1 = .ok (.invokevirtual 201, 3) := by decide +kernel
theorem dX7_gentleBy_4 : decode cX7_gentleBy 4 = .ok (.aload_n 0, 1) := by decide +kernel
theorem dX7_gentleBy_5 : decode cX7_gentleBy 5 = .ok (.iload_n 1, 1) := by decide +kernel
theorem dX7_gentleBy_6 : decode cX7_gentleBy 6 = .ok (.putfield 91, 3) := by decide +kernel
theorem dX7_gentleBy_9 : decode cX7_gentleBy 9 = .ok (.iconst 0, 1) := by decide +kernel
theorem dX7_gentleBy_10 : decode cX7_gentleBy 10 = .ok (.istore_n 2, 1) := by decide +kernel
theorem dX7_gentleBy_11 : decode cX7_gentleBy 11 = .ok (.iload_n 2, 1) := by decide +kernel
theorem dX7_gentleBy_12 : decode cX7_gentleBy 12 = .ok (.bipush 60, 2) := by decide +kernel
theorem dX7_gentleBy_14 : decode cX7_gentleBy 14 = .ok (.if_icmp .ge 46, 3) := by decide +kernel
theorem dX7_gentleBy_17 : decode cX7_gentleBy 17 = .ok (.iload_n 2, 1) := by decide +kernel
theorem dX7_gentleBy_18 : decode cX7_gentleBy 18 = .ok (.aload_n 0, 1) := by decide +kernel
theorem dX7_gentleBy_19 : decode cX7_gentleBy 19 = .ok (.getfield 223, 3) := by decide +kernel
theorem dX7_gentleBy_22 : decode cX7_gentleBy 22 = .ok (.if_icmp .ge 26, 3) := by decide +kernel
theorem dX7_gentleBy_25 : decode cX7_gentleBy 25 = .ok (.aload_n 0, 1) := by decide +kernel
theorem dX7_gentleBy_26 : decode cX7_gentleBy 26 = .ok (.aload_n 0, 1) := by decide +kernel
theorem dX7_gentleBy_27 : decode cX7_gentleBy 27 = .ok (.getfield 67, 3) := by decide +kernel
theorem dX7_gentleBy_30 : decode cX7_gentleBy 30 = .ok (.iload_n 2, 1) := by decide +kernel
theorem dX7_gentleBy_31 : decode cX7_gentleBy 31 = .ok (.iaload, 1) := by decide +kernel
theorem dX7_gentleBy_32 : decode cX7_gentleBy 32 = .ok (.invokevirtual 182, 3) := by decide +kernel
theorem dX7_gentleBy_35 : decode cX7_gentleBy 35 = .ok (.ifCond .eq 13, 3) := by decide +kernel
theorem dX7_gentleBy_38 : decode cX7_gentleBy 38 = .ok (.aload_n 0, 1) := by decide +kernel
theorem dX7_gentleBy_39 : decode cX7_gentleBy 39 = .ok (.aload_n 0, 1) := by decide +kernel
theorem dX7_gentleBy_40 : decode cX7_gentleBy 40 = .ok (.getfield 67, 3) := by decide +kernel
theorem dX7_gentleBy_43 : decode cX7_gentleBy 43 = .ok (.iload_n 2, 1) := by decide +kernel
theorem dX7_gentleBy_44 : decode cX7_gentleBy 44 = .ok (.iaload, 1) := by decide +kernel
theorem dX7_gentleBy_45 : decode cX7_gentleBy 45 = .ok (.invokevirtual 188, 3) := by decide +kernel
theorem dX7_gentleBy_48 : decode cX7_gentleBy 48 = .ok (.aload_n 0, 1) := by decide +kernel
theorem dX7_gentleBy_49 : decode cX7_gentleBy 49 = .ok (.iconst 0, 1) := by decide +kernel
theorem dX7_gentleBy_50 : decode cX7_gentleBy 50 = .ok (.invokevirtual 158, 3) := by decide +kernel
theorem dX7_gentleBy_53 : decode cX7_gentleBy 53 = .ok (.pop, 1) := by decide +kernel
theorem dX7_gentleBy_54 : decode cX7_gentleBy 54 = .ok (.iinc 2 1, 3) := by decide +kernel
theorem dX7_gentleBy_57 : decode cX7_gentleBy 57 = .ok (.goto (-46), 3) := by decide +kernel
theorem dX7_gentleBy_60 : decode cX7_gentleBy 60 = .ok (.aload_n 0, 1) := by decide +kernel
theorem dX7_gentleBy_61 : decode cX7_gentleBy 61 = .ok (.invokevirtual 216, 3) := by decide +kernel
theorem dX7_gentleBy_64 : decode cX7_gentleBy 64 = .ok (.istore_n 2, 1) := by decide +kernel
theorem dX7_gentleBy_65 : decode cX7_gentleBy 65 = .ok (.aload_n 0, 1) := by decide +kernel
theorem dX7_gentleBy_66 : decode cX7_gentleBy 66 = .ok (.invokevirtual 213, 3) := by decide +kernel
theorem dX7_gentleBy_69 : decode cX7_gentleBy 69 = .ok (.iload_n 2, 1) := by decide +kernel
theorem dX7_gentleBy_70 : decode cX7_gentleBy 70 = .ok (.ireturn, 1) := by decide +kernel
theorem dX7_mostBy_0 : decode cX7_mostBy 0 = .ok (.bipush (-4), 2) := by decide +kernel
theorem dX7_mostBy_2 : decode cX7_mostBy 2 = .ok (.istore_n 2, 1) := by decide +kernel
theorem dX7_mostBy_3 : decode cX7_mostBy 3 = .ok (.aload_n 0, 1) := by decide +kernel
theorem dX7_mostBy_4 : decode cX7_mostBy 4 = .ok (.invokevirtual 226, 3) := by decide +kernel
theorem dX7_mostBy_7 : decode cX7_mostBy 7 = .ok (.iconst 1, 1) := by decide +kernel
theorem dX7_mostBy_8 : decode cX7_mostBy 8 = .ok (.istore_n 3, 1) := by decide +kernel
theorem dX7_mostBy_9 : decode cX7_mostBy 9 = .ok (.iload_n 3, 1) := by decide +kernel
theorem dX7_mostBy_10 : decode cX7_mostBy 10 = .ok (.ifCond .eq 59, 3) := by decide +kernel
theorem dX7_mostBy_13 : decode cX7_mostBy 13 = .ok (.aload_n 0, 1) := by decide +kernel
theorem dX7_mostBy_14 : decode cX7_mostBy 14 = .ok (.iload_n 1, 1) := by decide +kernel
theorem dX7_mostBy_15 : decode cX7_mostBy 15 = .ok (.invokevirtual 229, 3) := by decide +kernel
theorem dX7_mostBy_18 : decode cX7_mostBy 18 = .ok (.istore 4, 2) := by decide +kernel
theorem dX7_mostBy_20 : decode cX7_mostBy 20 = .ok (.iload 4, 2) := by decide +kernel
theorem dX7_mostBy_22 : decode cX7_mostBy 22 = .ok (.iload_n 2, 1) := by decide +kernel
theorem dX7_mostBy_23 : decode cX7_mostBy 23 = .ok (.if_icmp .le 38, 3) := by decide +kernel
theorem dX7_mostBy_26 : decode cX7_mostBy 26 = .ok (.iload 4, 2) := by decide +kernel
theorem dX7_mostBy_28 : decode cX7_mostBy 28 = .ok (.istore_n 2, 1) := by decide +kernel
theorem dX7_mostBy_29 : decode cX7_mostBy 29 = .ok (.iconst 0, 1) := by decide +kernel
theorem dX7_mostBy_30 : decode cX7_mostBy 30 = .ok (.istore 5, 2) := by decide +kernel
theorem dX7_mostBy_32 : decode cX7_mostBy 32 = .ok (.iload 5, 2) := by decide +kernel
theorem dX7_mostBy_34 : decode cX7_mostBy 34 = .ok (.aload_n 0, 1) := by decide +kernel
theorem dX7_mostBy_35 : decode cX7_mostBy 35 = .ok (.getfield 223, 3) := by decide +kernel
theorem dX7_mostBy_38 : decode cX7_mostBy 38 = .ok (.if_icmp .ge 23, 3) := by decide +kernel
theorem dX7_mostBy_41 : decode cX7_mostBy 41 = .ok (.aload_n 0, 1) := by decide +kernel
theorem dX7_mostBy_42 : decode cX7_mostBy 42 = .ok (.getfield 70, 3) := by decide +kernel
theorem dX7_mostBy_45 : decode cX7_mostBy 45 = .ok (.iload 5, 2) := by decide +kernel
theorem dX7_mostBy_47 : decode cX7_mostBy 47 = .ok (.aload_n 0, 1) := by decide +kernel
theorem dX7_mostBy_48 : decode cX7_mostBy 48 = .ok (.getfield 67, 3) := by decide +kernel
theorem dX7_mostBy_51 : decode cX7_mostBy 51 = .ok (.iload 5, 2) := by decide +kernel
theorem dX7_mostBy_53 : decode cX7_mostBy 53 = .ok (.iaload, 1) := by decide +kernel
theorem dX7_mostBy_54 : decode cX7_mostBy 54 = .ok (.iastore, 1) := by decide +kernel
theorem dX7_mostBy_55 : decode cX7_mostBy 55 = .ok (.iinc 5 1, 3) := by decide +kernel
theorem dX7_mostBy_58 : decode cX7_mostBy 58 = .ok (.goto (-26), 3) := by decide +kernel
theorem dX7_mostBy_61 : decode cX7_mostBy 61 = .ok (.aload_n 0, 1) := by decide +kernel
theorem dX7_mostBy_62 : decode cX7_mostBy 62 = .ok (.invokevirtual 232, 3) := by decide +kernel
theorem dX7_mostBy_65 : decode cX7_mostBy 65 = .ok (.istore_n 3, 1) := by decide +kernel
theorem dX7_mostBy_66 : decode cX7_mostBy 66 = .ok (.goto (-57), 3) := by decide +kernel
theorem dX7_mostBy_69 : decode cX7_mostBy 69 = .ok (.iload_n 2, 1) := by decide +kernel
theorem dX7_mostBy_70 : decode cX7_mostBy 70 = .ok (.ireturn, 1) := by decide +kernel
theorem dX7_order_0 : decode cX7_order 0 = .ok (.iload_n 1, 1) := by decide +kernel
theorem dX7_order_1 : decode cX7_order 1 = .ok (.iconst (-1), 1) := by decide +kernel
theorem dX7_order_2 : decode cX7_order 2 = .ok (.iconst 5, 1) := by decide +kernel
theorem dX7_order_3 : decode cX7_order 3 = .ok (.invokestatic 100, 3) := by decide +kernel
theorem dX7_order_6 : decode cX7_order 6 = .ok (.ifCond .ne 5, 3) := by decide +kernel
theorem dX7_order_9 : decode cX7_order 9 = .ok (.iconst (-1), 1) := by decide +kernel
theorem dX7_order_10 : decode cX7_order 10 = .ok (.ireturn, 1) := by decide +kernel
theorem dX7_order_11 : decode cX7_order 11 = .ok (.aload_n 0, 1) := by decide +kernel
theorem dX7_order_12 : decode cX7_order 12 = .ok (.aload_n 0, 1) := by decide +kernel
theorem dX7_order_13 : decode cX7_order 13 = .ok (.getfield 91, 3) := by decide +kernel
theorem dX7_order_16 : decode cX7_order 16 = .ok (.invokevirtual 235, 3) := by decide +kernel
theorem dX7_order_19 : decode cX7_order 19 = .ok (.istore_n 2, 1) := by decide +kernel
theorem dX7_order_20 : decode cX7_order 20 = .ok (.iload_n 1, 1) := by decide +kernel
theorem dX7_order_21 : decode cX7_order 21 = .ok (.ifCond .ge 7, 3) := by decide +kernel
theorem dX7_order_24 : decode cX7_order 24 = .ok (.iload_n 2, 1) := by decide +kernel
theorem dX7_order_25 : decode cX7_order 25 = .ok (.goto 22, 3) := by decide +kernel
theorem dX7_order_28 : decode cX7_order 28 = .ok (.iload_n 1, 1) := by decide +kernel
theorem dX7_order_29 : decode cX7_order 29 = .ok (.aload_n 0, 1) := by decide +kernel
theorem dX7_order_30 : decode cX7_order 30 = .ok (.getfield 223, 3) := by decide +kernel
theorem dX7_order_33 : decode cX7_order 33 = .ok (.if_icmp .ge 12, 3) := by decide +kernel
theorem dX7_order_36 : decode cX7_order 36 = .ok (.aload_n 0, 1) := by decide +kernel
theorem dX7_order_37 : decode cX7_order 37 = .ok (.getfield 70, 3) := by decide +kernel
theorem dX7_order_40 : decode cX7_order 40 = .ok (.iload_n 1, 1) := by decide +kernel
theorem dX7_order_41 : decode cX7_order 41 = .ok (.iaload, 1) := by decide +kernel
theorem dX7_order_42 : decode cX7_order 42 = .ok (.goto 5, 3) := by decide +kernel
theorem dX7_order_45 : decode cX7_order 45 = .ok (.bipush (-4), 2) := by decide +kernel
theorem dX7_order_47 : decode cX7_order 47 = .ok (.ireturn, 1) := by decide +kernel
theorem dX7_need_0 : decode cX7_need 0 = .ok (.aload_n 0, 1) := by decide +kernel
theorem dX7_need_1 : decode cX7_need 1 = .ok (.bipush 20, 2) := by decide +kernel
theorem dX7_need_3 : decode cX7_need 3 = .ok (.invokevirtual 235, 3) := by decide +kernel
theorem dX7_need_6 : decode cX7_need 6 = .ok (.istore_n 1, 1) := by decide +kernel
theorem dX7_need_7 : decode cX7_need 7 = .ok (.iconst 0, 1) := by decide +kernel
theorem dX7_need_8 : decode cX7_need 8 = .ok (.istore_n 2, 1) := by decide +kernel
theorem dX7_need_9 : decode cX7_need 9 = .ok (.aload_n 0, 1) := by decide +kernel
theorem dX7_need_10 : decode cX7_need 10 = .ok (.iload_n 2, 1) := by decide +kernel
theorem dX7_need_11 : decode cX7_need 11 = .ok (.invokevirtual 235, 3) := by decide +kernel
theorem dX7_need_14 : decode cX7_need 14 = .ok (.iload_n 1, 1) := by decide +kernel
theorem dX7_need_15 : decode cX7_need 15 = .ok (.if_icmp .ge 9, 3) := by decide +kernel
theorem dX7_need_18 : decode cX7_need 18 = .ok (.iinc 2 1, 3) := by decide +kernel
theorem dX7_need_21 : decode cX7_need 21 = .ok (.goto (-12), 3) := by decide +kernel
theorem dX7_need_24 : decode cX7_need 24 = .ok (.iload_n 2, 1) := by decide +kernel
theorem dX7_need_25 : decode cX7_need 25 = .ok (.ireturn, 1) := by decide +kernel
theorem dX7_seen_0 : decode cX7_seen 0 = .ok (.iload_n 1, 1) := by decide +kernel
theorem dX7_seen_1 : decode cX7_seen 1 = .ok (.iconst 0, 1) := by decide +kernel
theorem dX7_seen_2 : decode cX7_seen 2 = .ok (.bipush 40, 2) := by decide +kernel
theorem dX7_seen_4 : decode cX7_seen 4 = .ok (.invokestatic 100, 3) := by decide +kernel
theorem dX7_seen_7 : decode cX7_seen 7 = .ok (.ifCond .eq 20, 3) := by decide +kernel
theorem dX7_seen_10 : decode cX7_seen 10 = .ok (.aload_n 0, 1) := by decide +kernel
theorem dX7_seen_11 : decode cX7_seen 11 = .ok (.iload_n 2, 1) := by decide +kernel
theorem dX7_seen_12 : decode cX7_seen 12 = .ok (.invokevirtual 162, 3) := by decide +kernel
theorem dX7_seen_15 : decode cX7_seen 15 = .ok (.ifCond .eq 12, 3) := by decide +kernel
theorem dX7_seen_18 : decode cX7_seen 18 = .ok (.iload_n 3, 1) := by decide +kernel
theorem dX7_seen_19 : decode cX7_seen 19 = .ok (.iconst 0, 1) := by decide +kernel
theorem dX7_seen_20 : decode cX7_seen 20 = .ok (.iconst 1, 1) := by decide +kernel
theorem dX7_seen_21 : decode cX7_seen 21 = .ok (.invokestatic 100, 3) := by decide +kernel
theorem dX7_seen_24 : decode cX7_seen 24 = .ok (.ifCond .ne 5, 3) := by decide +kernel
theorem dX7_seen_27 : decode cX7_seen 27 = .ok (.iconst (-1), 1) := by decide +kernel
theorem dX7_seen_28 : decode cX7_seen 28 = .ok (.ireturn, 1) := by decide +kernel
theorem dX7_seen_29 : decode cX7_seen 29 = .ok (.aload_n 0, 1) := by decide +kernel
theorem dX7_seen_30 : decode cX7_seen 30 = .ok (.getfield 142, 3) := by decide +kernel
theorem dX7_seen_33 : decode cX7_seen 33 = .ok (.bipush 6, 2) := by decide +kernel
theorem dX7_seen_35 : decode cX7_seen 35 = .ok (.if_icmp .ne 6, 3) := by decide +kernel
theorem dX7_seen_38 : decode cX7_seen 38 = .ok (.bipush (-3), 2) := by decide +kernel
theorem dX7_seen_40 : decode cX7_seen 40 = .ok (.ireturn, 1) := by decide +kernel
theorem dX7_seen_41 : decode cX7_seen 41 = .ok (.aload_n 0, 1) := by decide +kernel
theorem dX7_seen_42 : decode cX7_seen 42 = .ok (.getfield 46, 3) := by decide +kernel
theorem dX7_seen_45 : decode cX7_seen 45 = .ok (.aload_n 0, 1) := by decide +kernel
theorem dX7_seen_46 : decode cX7_seen 46 = .ok (.getfield 142, 3) := by decide +kernel
theorem dX7_seen_49 : decode cX7_seen 49 = .ok (.iload_n 1, 1) := by decide +kernel
theorem dX7_seen_50 : decode cX7_seen 50 = .ok (.iastore, 1) := by decide +kernel
theorem dX7_seen_51 : decode cX7_seen 51 = .ok (.aload_n 0, 1) := by decide +kernel
theorem dX7_seen_52 : decode cX7_seen 52 = .ok (.getfield 49, 3) := by decide +kernel
theorem dX7_seen_55 : decode cX7_seen 55 = .ok (.aload_n 0, 1) := by decide +kernel
theorem dX7_seen_56 : decode cX7_seen 56 = .ok (.getfield 142, 3) := by decide +kernel
theorem dX7_seen_59 : decode cX7_seen 59 = .ok (.iload_n 2, 1) := by decide +kernel
theorem dX7_seen_60 : decode cX7_seen 60 = .ok (.iastore, 1) := by decide +kernel
theorem dX7_seen_61 : decode cX7_seen 61 = .ok (.aload_n 0, 1) := by decide +kernel
theorem dX7_seen_62 : decode cX7_seen 62 = .ok (.getfield 52, 3) := by decide +kernel
theorem dX7_seen_65 : decode cX7_seen 65 = .ok (.aload_n 0, 1) := by decide +kernel
theorem dX7_seen_66 : decode cX7_seen 66 = .ok (.getfield 142, 3) := by decide +kernel
theorem dX7_seen_69 : decode cX7_seen 69 = .ok (.iload_n 3, 1) := by decide +kernel
theorem dX7_seen_70 : decode cX7_seen 70 = .ok (.iastore, 1) := by decide +kernel
theorem dX7_seen_71 : decode cX7_seen 71 = .ok (.aload_n 0, 1) := by decide +kernel
theorem dX7_seen_72 : decode cX7_seen 72 = .ok (.dup, 1) := by decide +kernel
theorem dX7_seen_73 : decode cX7_seen 73 = .ok (.getfield 142, 3) := by decide +kernel
theorem dX7_seen_76 : decode cX7_seen 76 = .ok (.iconst 1, 1) := by decide +kernel
theorem dX7_seen_77 : decode cX7_seen 77 = .ok (.iadd, 1) := by decide +kernel
theorem dX7_seen_78 : decode cX7_seen 78 = .ok (.putfield 142, 3) := by decide +kernel
theorem dX7_seen_81 : decode cX7_seen 81 = .ok (.aload_n 0, 1) := by decide +kernel
theorem dX7_seen_82 : decode cX7_seen 82 = .ok (.getfield 142, 3) := by decide +kernel
theorem dX7_seen_85 : decode cX7_seen 85 = .ok (.ireturn, 1) := by decide +kernel
theorem dX7_forget_0 : decode cX7_forget 0 = .ok (.aload_n 0, 1) := by decide +kernel
theorem dX7_forget_1 : decode cX7_forget 1 = .ok (.getfield 142, 3) := by decide +kernel
theorem dX7_forget_4 : decode cX7_forget 4 = .ok (.istore_n 1, 1) := by decide +kernel
theorem dX7_forget_5 : decode cX7_forget 5 = .ok (.aload_n 0, 1) := by decide +kernel
theorem dX7_forget_6 : decode cX7_forget 6 = .ok (.iconst 0, 1) := by decide +kernel
theorem dX7_forget_7 : decode cX7_forget 7 = .ok (.putfield 142, 3) := by decide +kernel
theorem dX7_forget_10 : decode cX7_forget 10 = .ok (.iload_n 1, 1) := by decide +kernel
theorem dX7_forget_11 : decode cX7_forget 11 = .ok (.ireturn, 1) := by decide +kernel
theorem dX7_isSo_0 : decode cX7_isSo 0 = .ok (.aload_n 0, 1) := by decide +kernel
theorem dX7_isSo_1 : decode cX7_isSo 1 = .ok (.invokevirtual 201, 3) := by decide +kernel
theorem dX7_isSo_4 : decode cX7_isSo 4 = .ok (.iconst 1, 1) := by decide +kernel
theorem dX7_isSo_5 : decode cX7_isSo 5 = .ok (.istore_n 1, 1) := by decide +kernel
theorem dX7_isSo_6 : decode cX7_isSo 6 = .ok (.iconst 0, 1) := by decide +kernel
theorem dX7_isSo_7 : decode cX7_isSo 7 = .ok (.istore_n 2, 1) := by decide +kernel
theorem dX7_isSo_8 : decode cX7_isSo 8 = .ok (.iload_n 2, 1) := by decide +kernel
theorem dX7_isSo_9 : decode cX7_isSo 9 = .ok (.bipush 40, 2) := by decide +kernel
theorem dX7_isSo_11 : decode cX7_isSo 11 = .ok (.if_icmp .gt 94, 3) := by decide +kernel
theorem dX7_isSo_14 : decode cX7_isSo 14 = .ok (.iconst 0, 1) := by decide +kernel
theorem dX7_isSo_15 : decode cX7_isSo 15 = .ok (.istore_n 3, 1) := by decide +kernel
theorem dX7_isSo_16 : decode cX7_isSo 16 = .ok (.iload_n 3, 1) := by decide +kernel
theorem dX7_isSo_17 : decode cX7_isSo 17 = .ok (.aload_n 0, 1) := by decide +kernel
theorem dX7_isSo_18 : decode cX7_isSo 18 = .ok (.getfield 142, 3) := by decide +kernel
theorem dX7_isSo_21 : decode cX7_isSo 21 = .ok (.if_icmp .ge 72, 3) := by decide +kernel
theorem dX7_isSo_24 : decode cX7_isSo 24 = .ok (.aload_n 0, 1) := by decide +kernel
theorem dX7_isSo_25 : decode cX7_isSo 25 = .ok (.getfield 31, 3) := by decide +kernel
theorem dX7_isSo_28 : decode cX7_isSo 28 = .ok (.aload_n 0, 1) := by decide +kernel
theorem dX7_isSo_29 : decode cX7_isSo 29 = .ok (.getfield 49, 3) := by decide +kernel
theorem dX7_isSo_32 : decode cX7_isSo 32 = .ok (.iload_n 3, 1) := by decide +kernel
theorem dX7_isSo_33 : decode cX7_isSo 33 = .ok (.iaload, 1) := by decide +kernel
theorem dX7_isSo_34 : decode cX7_isSo 34 = .ok (.iaload, 1) := by decide +kernel
theorem dX7_isSo_35 : decode cX7_isSo 35 = .ok (.bipush (-4), 2) := by decide +kernel
theorem dX7_isSo_37 : decode cX7_isSo 37 = .ok (.if_icmp .eq 7, 3) := by decide +kernel
theorem dX7_isSo_40 : decode cX7_isSo 40 = .ok (.iconst 1, 1) := by decide +kernel
theorem dX7_isSo_41 : decode cX7_isSo 41 = .ok (.goto 4, 3) := by decide +kernel
theorem dX7_isSo_44 : decode cX7_isSo 44 = .ok (.iconst 0, 1) := by decide +kernel
theorem dX7_isSo_45 : decode cX7_isSo 45 = .ok (.istore 4, 2) := by decide +kernel
theorem dX7_isSo_47 : decode cX7_isSo 47 = .ok (.iload_n 1, 1) := by decide +kernel
theorem dX7_isSo_48 : decode cX7_isSo 48 = .ok (.ifCond .eq 37, 3) := by decide +kernel
theorem dX7_isSo_51 : decode cX7_isSo 51 = .ok (.aload_n 0, 1) := by decide +kernel
theorem dX7_isSo_52 : decode cX7_isSo 52 = .ok (.getfield 46, 3) := by decide +kernel
theorem dX7_isSo_55 : decode cX7_isSo 55 = .ok (.iload_n 3, 1) := by decide +kernel
theorem dX7_isSo_56 : decode cX7_isSo 56 = .ok (.iaload, 1) := by decide +kernel
theorem dX7_isSo_57 : decode cX7_isSo 57 = .ok (.iload_n 2, 1) := by decide +kernel
theorem dX7_isSo_58 : decode cX7_isSo 58 = .ok (.if_icmp .ne 23, 3) := by decide +kernel
theorem dX7_isSo_61 : decode cX7_isSo 61 = .ok (.iload 4, 2) := by decide +kernel
theorem dX7_isSo_63 : decode cX7_isSo 63 = .ok (.aload_n 0, 1) := by decide +kernel
theorem dX7_isSo_64 : decode cX7_isSo 64 = .ok (.getfield 52, 3) := by decide +kernel
theorem dX7_isSo_67 : decode cX7_isSo 67 = .ok (.iload_n 3, 1) := by decide +kernel
theorem dX7_isSo_68 : decode cX7_isSo 68 = .ok (.iaload, 1) := by decide +kernel
theorem dX7_isSo_69 : decode cX7_isSo 69 = .ok (.iconst 1, 1) := by decide +kernel
theorem dX7_isSo_70 : decode cX7_isSo 70 = .ok (.if_icmp .ne 7, 3) := by decide +kernel
theorem dX7_isSo_73 : decode cX7_isSo 73 = .ok (.iconst 1, 1) := by decide +kernel
theorem dX7_isSo_74 : decode cX7_isSo 74 = .ok (.goto 4, 3) := by decide +kernel
theorem dX7_isSo_77 : decode cX7_isSo 77 = .ok (.iconst 0, 1) := by decide +kernel
theorem dX7_isSo_78 : decode cX7_isSo 78 = .ok (.if_icmp .ne 7, 3) := by decide +kernel
theorem dX7_isSo_81 : decode cX7_isSo 81 = .ok (.iconst 1, 1) := by decide +kernel
theorem dX7_isSo_82 : decode cX7_isSo 82 = .ok (.goto 4, 3) := by decide +kernel
theorem dX7_isSo_85 : decode cX7_isSo 85 = .ok (.iconst 0, 1) := by decide +kernel
theorem dX7_isSo_86 : decode cX7_isSo 86 = .ok (.istore_n 1, 1) := by decide +kernel
theorem dX7_isSo_87 : decode cX7_isSo 87 = .ok (.iinc 3 1, 3) := by decide +kernel
theorem dX7_isSo_90 : decode cX7_isSo 90 = .ok (.goto (-74), 3) := by decide +kernel
theorem dX7_isSo_93 : decode cX7_isSo 93 = .ok (.aload_n 0, 1) := by decide +kernel
theorem dX7_isSo_94 : decode cX7_isSo 94 = .ok (.iconst 0, 1) := by decide +kernel
theorem dX7_isSo_95 : decode cX7_isSo 95 = .ok (.invokevirtual 158, 3) := by decide +kernel
theorem dX7_isSo_98 : decode cX7_isSo 98 = .ok (.pop, 1) := by decide +kernel
theorem dX7_isSo_99 : decode cX7_isSo 99 = .ok (.iinc 2 1, 3) := by decide +kernel
theorem dX7_isSo_102 : decode cX7_isSo 102 = .ok (.goto (-94), 3) := by decide +kernel
theorem dX7_isSo_105 : decode cX7_isSo 105 = .ok (.aload_n 0, 1) := by decide +kernel
theorem dX7_isSo_106 : decode cX7_isSo 106 = .ok (.invokevirtual 213, 3) := by decide +kernel
theorem dX7_isSo_109 : decode cX7_isSo 109 = .ok (.iload_n 1, 1) := by decide +kernel
theorem dX7_isSo_110 : decode cX7_isSo 110 = .ok (.ireturn, 1) := by decide +kernel
theorem dX7_kinds_0 : decode cX7_kinds 0 = .ok (.aload_n 0, 1) := by decide +kernel
theorem dX7_kinds_1 : decode cX7_kinds 1 = .ok (.iload_n 1, 1) := by decide +kernel
theorem dX7_kinds_2 : decode cX7_kinds 2 = .ok (.invokevirtual 162, 3) := by decide +kernel
theorem dX7_kinds_5 : decode cX7_kinds 5 = .ok (.ifCond .ne 5, 3) := by decide +kernel
theorem dX7_kinds_8 : decode cX7_kinds 8 = .ok (.iconst (-1), 1) := by decide +kernel
theorem dX7_kinds_9 : decode cX7_kinds 9 = .ok (.ireturn, 1) := by decide +kernel
theorem dX7_kinds_10 : decode cX7_kinds 10 = .ok (.aload_n 0, 1) := by decide +kernel
theorem dX7_kinds_11 : decode cX7_kinds 11 = .ok (.getfield 9, 3) := by decide +kernel
theorem dX7_kinds_14 : decode cX7_kinds 14 = .ok (.iload_n 1, 1) := by decide +kernel
theorem dX7_kinds_15 : decode cX7_kinds 15 = .ok (.iaload, 1) := by decide +kernel
theorem dX7_kinds_16 : decode cX7_kinds 16 = .ok (.istore_n 2, 1) := by decide +kernel
theorem dX7_kinds_17 : decode cX7_kinds 17 = .ok (.iconst 0, 1) := by decide +kernel
theorem dX7_kinds_18 : decode cX7_kinds 18 = .ok (.istore_n 3, 1) := by decide +kernel
theorem dX7_kinds_19 : decode cX7_kinds 19 = .ok (.iconst 0, 1) := by decide +kernel
theorem dX7_kinds_20 : decode cX7_kinds 20 = .ok (.istore 4, 2) := by decide +kernel
theorem dX7_kinds_22 : decode cX7_kinds 22 = .ok (.iload 4, 2) := by decide +kernel
theorem dX7_kinds_24 : decode cX7_kinds 24 = .ok (.iconst 3, 1) := by decide +kernel
theorem dX7_kinds_25 : decode cX7_kinds 25 = .ok (.if_icmp .gt 35, 3) := by decide +kernel
theorem dX7_kinds_28 : decode cX7_kinds 28 = .ok (.aload_n 0, 1) := by decide +kernel
theorem dX7_kinds_29 : decode cX7_kinds 29 = .ok (.getfield 9, 3) := by decide +kernel
theorem dX7_kinds_32 : decode cX7_kinds 32 = .ok (.iload_n 1, 1) := by decide +kernel
theorem dX7_kinds_33 : decode cX7_kinds 33 = .ok (.iload 4, 2) := by decide +kernel
theorem dX7_kinds_35 : decode cX7_kinds 35 = .ok (.iastore, 1) := by decide +kernel
theorem dX7_kinds_36 : decode cX7_kinds 36 = .ok (.iload_n 3, 1) := by decide +kernel
theorem dX7_kinds_37 : decode cX7_kinds 37 = .ok (.aload_n 0, 1) := by decide +kernel
theorem dX7_kinds_38 : decode cX7_kinds 38 = .ok (.invokevirtual 238, 3) := by decide +kernel
theorem dX7_kinds_41 : decode cX7_kinds 41 = .ok (.ifCond .eq 10, 3) := by decide +kernel
theorem dX7_kinds_44 : decode cX7_kinds 44 = .ok (.iconst 1, 1) := by decide +kernel
theorem dX7_kinds_45 : decode cX7_kinds 45 = .ok (.iload 4, 2) := by decide +kernel
theorem dX7_kinds_47 : decode cX7_kinds 47 = .ok (.ishl, 1) := by decide +kernel
theorem dX7_kinds_48 : decode cX7_kinds 48 = .ok (.goto 4, 3) := by decide +kernel
theorem dX7_kinds_51 : decode cX7_kinds 51 = .ok (.iconst 0, 1) := by decide +kernel
theorem dX7_kinds_52 : decode cX7_kinds 52 = .ok (.ior, 1) := by decide +kernel
theorem dX7_kinds_53 : decode cX7_kinds 53 = .ok (.istore_n 3, 1) := by decide +kernel
theorem dX7_kinds_54 : decode cX7_kinds 54 = .ok (.iinc 4 1, 3) := by decide +kernel
theorem dX7_kinds_57 : decode cX7_kinds 57 = .ok (.goto (-35), 3) := by decide +kernel
theorem dX7_kinds_60 : decode cX7_kinds 60 = .ok (.aload_n 0, 1) := by decide +kernel
theorem dX7_kinds_61 : decode cX7_kinds 61 = .ok (.getfield 9, 3) := by decide +kernel
theorem dX7_kinds_64 : decode cX7_kinds 64 = .ok (.iload_n 1, 1) := by decide +kernel
theorem dX7_kinds_65 : decode cX7_kinds 65 = .ok (.iload_n 2, 1) := by decide +kernel
theorem dX7_kinds_66 : decode cX7_kinds 66 = .ok (.iastore, 1) := by decide +kernel
theorem dX7_kinds_67 : decode cX7_kinds 67 = .ok (.iload_n 3, 1) := by decide +kernel
theorem dX7_kinds_68 : decode cX7_kinds 68 = .ok (.ireturn, 1) := by decide +kernel
theorem dX7_days_0 : decode cX7_days 0 = .ok (.aload_n 0, 1) := by decide +kernel
theorem dX7_days_1 : decode cX7_days 1 = .ok (.iload_n 1, 1) := by decide +kernel
theorem dX7_days_2 : decode cX7_days 2 = .ok (.invokevirtual 162, 3) := by decide +kernel
theorem dX7_days_5 : decode cX7_days 5 = .ok (.ifCond .eq 12, 3) := by decide +kernel
theorem dX7_days_8 : decode cX7_days 8 = .ok (.iload_n 2, 1) := by decide +kernel
theorem dX7_days_9 : decode cX7_days 9 = .ok (.iconst 0, 1) := by decide +kernel
theorem dX7_days_10 : decode cX7_days 10 = .ok (.iconst 1, 1) := by decide +kernel
theorem dX7_days_11 : decode cX7_days 11 = .ok (.invokestatic 100, 3) := by decide +kernel
theorem dX7_days_14 : decode cX7_days 14 = .ok (.ifCond .ne 5, 3) := by decide +kernel
theorem dX7_days_17 : decode cX7_days 17 = .ok (.iconst (-1), 1) := by decide +kernel
theorem dX7_days_18 : decode cX7_days 18 = .ok (.ireturn, 1) := by decide +kernel
theorem dX7_days_19 : decode cX7_days 19 = .ok (.aload_n 0, 1) := by decide +kernel
theorem dX7_days_20 : decode cX7_days 20 = .ok (.getfield 16, 3) := by decide +kernel
theorem dX7_days_23 : decode cX7_days 23 = .ok (.iload_n 1, 1) := by decide +kernel
theorem dX7_days_24 : decode cX7_days 24 = .ok (.iaload, 1) := by decide +kernel
theorem dX7_days_25 : decode cX7_days 25 = .ok (.istore_n 3, 1) := by decide +kernel
theorem dX7_days_26 : decode cX7_days 26 = .ok (.iconst 0, 1) := by decide +kernel
theorem dX7_days_27 : decode cX7_days 27 = .ok (.istore 4, 2) := by decide +kernel
theorem dX7_days_29 : decode cX7_days 29 = .ok (.bipush (-4), 2) := by decide +kernel
theorem dX7_days_31 : decode cX7_days 31 = .ok (.istore 5, 2) := by decide +kernel
theorem dX7_days_33 : decode cX7_days 33 = .ok (.bipush 40, 2) := by decide +kernel
theorem dX7_days_35 : decode cX7_days 35 = .ok (.istore 6, 2) := by decide +kernel
theorem dX7_days_37 : decode cX7_days 37 = .ok (.iload 6, 2) := by decide +kernel
theorem dX7_days_39 : decode cX7_days 39 = .ok (.ifCond .lt 52, 3) := by decide +kernel
theorem dX7_days_42 : decode cX7_days 42 = .ok (.aload_n 0, 1) := by decide +kernel
theorem dX7_days_43 : decode cX7_days 43 = .ok (.getfield 16, 3) := by decide +kernel
theorem dX7_days_46 : decode cX7_days 46 = .ok (.iload_n 1, 1) := by decide +kernel
theorem dX7_days_47 : decode cX7_days 47 = .ok (.iload 6, 2) := by decide +kernel
theorem dX7_days_49 : decode cX7_days 49 = .ok (.iastore, 1) := by decide +kernel
theorem dX7_days_50 : decode cX7_days 50 = .ok (.aload_n 0, 1) := by decide +kernel
theorem dX7_days_51 : decode cX7_days 51 = .ok (.invokevirtual 238, 3) := by decide +kernel
theorem dX7_days_54 : decode cX7_days 54 = .ok (.istore 7, 2) := by decide +kernel
theorem dX7_days_56 : decode cX7_days 56 = .ok (.iload 4, 2) := by decide +kernel
theorem dX7_days_58 : decode cX7_days 58 = .ok (.iload 7, 2) := by decide +kernel
theorem dX7_days_60 : decode cX7_days 60 = .ok (.ifCond .eq 7, 3) := by decide +kernel
theorem dX7_days_63 : decode cX7_days 63 = .ok (.iconst 1, 1) := by decide +kernel
theorem dX7_days_64 : decode cX7_days 64 = .ok (.goto 4, 3) := by decide +kernel
theorem dX7_days_67 : decode cX7_days 67 = .ok (.iconst 0, 1) := by decide +kernel
theorem dX7_days_68 : decode cX7_days 68 = .ok (.iadd, 1) := by decide +kernel
theorem dX7_days_69 : decode cX7_days 69 = .ok (.istore 4, 2) := by decide +kernel
theorem dX7_days_71 : decode cX7_days 71 = .ok (.iload 7, 2) := by decide +kernel
theorem dX7_days_73 : decode cX7_days 73 = .ok (.ifCond .eq 8, 3) := by decide +kernel
theorem dX7_days_76 : decode cX7_days 76 = .ok (.iload 6, 2) := by decide +kernel
theorem dX7_days_78 : decode cX7_days 78 = .ok (.goto 5, 3) := by decide +kernel
theorem dX7_days_81 : decode cX7_days 81 = .ok (.iload 5, 2) := by decide +kernel
theorem dX7_days_83 : decode cX7_days 83 = .ok (.istore 5, 2) := by decide +kernel
theorem dX7_days_85 : decode cX7_days 85 = .ok (.iinc 6 (-1), 3) := by decide +kernel
theorem dX7_days_88 : decode cX7_days 88 = .ok (.goto (-51), 3) := by decide +kernel
theorem dX7_days_91 : decode cX7_days 91 = .ok (.aload_n 0, 1) := by decide +kernel
theorem dX7_days_92 : decode cX7_days 92 = .ok (.getfield 16, 3) := by decide +kernel
theorem dX7_days_95 : decode cX7_days 95 = .ok (.iload_n 1, 1) := by decide +kernel
theorem dX7_days_96 : decode cX7_days 96 = .ok (.iload_n 3, 1) := by decide +kernel
theorem dX7_days_97 : decode cX7_days 97 = .ok (.iastore, 1) := by decide +kernel
theorem dX7_days_98 : decode cX7_days 98 = .ok (.iload_n 2, 1) := by decide +kernel
theorem dX7_days_99 : decode cX7_days 99 = .ok (.ifCond .ne 8, 3) := by decide +kernel
theorem dX7_days_102 : decode cX7_days 102 = .ok (.iload 4, 2) := by decide +kernel
theorem dX7_days_104 : decode cX7_days 104 = .ok (.goto 5, 3) := by decide +kernel
theorem dX7_days_107 : decode cX7_days 107 = .ok (.iload 5, 2) := by decide +kernel
theorem dX7_days_109 : decode cX7_days 109 = .ok (.ireturn, 1) := by decide +kernel
theorem dX7_common_0 : decode cX7_common 0 = .ok (.lload_n 0, 1) := by decide +kernel
theorem dX7_common_1 : decode cX7_common 1 = .ok (.lstore 4, 2) := by decide +kernel
theorem dX7_common_3 : decode cX7_common 3 = .ok (.lload_n 2, 1) := by decide +kernel
theorem dX7_common_4 : decode cX7_common 4 = .ok (.lstore 6, 2) := by decide +kernel
theorem dX7_common_6 : decode cX7_common 6 = .ok (.lload 6, 2) := by decide +kernel
theorem dX7_common_8 : decode cX7_common 8 = .ok (.lconst 0, 1) := by decide +kernel
theorem dX7_common_9 : decode cX7_common 9 = .ok (.lcmp, 1) := by decide +kernel
theorem dX7_common_10 : decode cX7_common 10 = .ok (.ifCond .eq 21, 3) := by decide +kernel
theorem dX7_common_13 : decode cX7_common 13 = .ok (.lload 4, 2) := by decide +kernel
theorem dX7_common_15 : decode cX7_common 15 = .ok (.lload 6, 2) := by decide +kernel
theorem dX7_common_17 : decode cX7_common 17 = .ok (.lrem, 1) := by decide +kernel
theorem dX7_common_18 : decode cX7_common 18 = .ok (.lstore 8, 2) := by decide +kernel
theorem dX7_common_20 : decode cX7_common 20 = .ok (.lload 6, 2) := by decide +kernel
theorem dX7_common_22 : decode cX7_common 22 = .ok (.lstore 4, 2) := by decide +kernel
theorem dX7_common_24 : decode cX7_common 24 = .ok (.lload 8, 2) := by decide +kernel
theorem dX7_common_26 : decode cX7_common 26 = .ok (.lstore 6, 2) := by decide +kernel
theorem dX7_common_28 : decode cX7_common 28 = .ok (.goto (-22), 3) := by decide +kernel
theorem dX7_common_31 : decode cX7_common 31 = .ok (.lload 4, 2) := by decide +kernel
theorem dX7_common_33 : decode cX7_common 33 = .ok (.lreturn, 1) := by decide +kernel
theorem dX7_likely_0 : decode cX7_likely 0 = .ok (.aload_n 0, 1) := by decide +kernel
theorem dX7_likely_1 : decode cX7_likely 1 = .ok (.iload_n 1, 1) := by decide +kernel
theorem dX7_likely_2 : decode cX7_likely 2 = .ok (.invokevirtual 162, 3) := by decide +kernel
theorem dX7_likely_5 : decode cX7_likely 5 = .ok (.ifCond .eq 33, 3) := by decide +kernel
theorem dX7_likely_8 : decode cX7_likely 8 = .ok (.iload_n 2, 1) := by decide +kernel
theorem dX7_likely_9 : decode cX7_likely 9 = .ok (.iconst 0, 1) := by decide +kernel
theorem dX7_likely_10 : decode cX7_likely 10 = .ok (.bipush 7, 2) := by decide +kernel
theorem dX7_likely_12 : decode cX7_likely 12 = .ok (.invokestatic 100, 3) := by decide +kernel
theorem dX7_likely_15 : decode cX7_likely 15 = .ok (.ifCond .eq 23, 3) := by decide +kernel
theorem dX7_likely_18 : decode cX7_likely 18 = .ok (.iload_n 3, 1) := by decide +kernel
theorem dX7_likely_19 : decode cX7_likely 19 = .ok (.iconst 0, 1) := by decide +kernel
theorem dX7_likely_20 : decode cX7_likely 20 = .ok (.bipush 10, 2) := by decide +kernel
theorem dX7_likely_22 : decode cX7_likely 22 = .ok (.invokestatic 100, 3) := by decide +kernel
theorem dX7_likely_25 : decode cX7_likely 25 = .ok (.ifCond .eq 13, 3) := by decide +kernel
theorem dX7_likely_28 : decode cX7_likely 28 = .ok (.iload 4, 2) := by decide +kernel
theorem dX7_likely_30 : decode cX7_likely 30 = .ok (.iconst 0, 1) := by decide +kernel
theorem dX7_likely_31 : decode cX7_likely 31 = .ok (.iconst 1, 1) := by decide +kernel
theorem dX7_likely_32 : decode cX7_likely 32 = .ok (.invokestatic 100, 3) := by decide +kernel
theorem dX7_likely_35 : decode cX7_likely 35 = .ok (.ifCond .ne 5, 3) := by decide +kernel
theorem dX7_likely_38 : decode cX7_likely 38 = .ok (.iconst (-1), 1) := by decide +kernel
theorem dX7_likely_39 : decode cX7_likely 39 = .ok (.ireturn, 1) := by decide +kernel
theorem dX7_likely_40 : decode cX7_likely 40 = .ok (.lconst 0, 1) := by decide +kernel
theorem dX7_likely_41 : decode cX7_likely 41 = .ok (.lstore 5, 2) := by decide +kernel
theorem dX7_likely_43 : decode cX7_likely 43 = .ok (.lconst 1, 1) := by decide +kernel
theorem dX7_likely_44 : decode cX7_likely 44 = .ok (.lstore 7, 2) := by decide +kernel
theorem dX7_likely_46 : decode cX7_likely 46 = .ok (.iconst 0, 1) := by decide +kernel
theorem dX7_likely_47 : decode cX7_likely 47 = .ok (.istore 9, 2) := by decide +kernel
theorem dX7_likely_49 : decode cX7_likely 49 = .ok (.iload 9, 2) := by decide +kernel
theorem dX7_likely_51 : decode cX7_likely 51 = .ok (.iload_n 2, 1) := by decide +kernel
theorem dX7_likely_52 : decode cX7_likely 52 = .ok (.if_icmp .ge 17, 3) := by decide +kernel
theorem dX7_likely_55 : decode cX7_likely 55 = .ok (.lload 7, 2) := by decide +kernel
theorem dX7_likely_57 : decode cX7_likely 57 = .ok (.ldc2_w 241, 3) := by decide +kernel
theorem dX7_likely_60 : decode cX7_likely 60 = .ok (.lmul, 1) := by decide +kernel
theorem dX7_likely_61 : decode cX7_likely 61 = .ok (.lstore 7, 2) := by decide +kernel
theorem dX7_likely_63 : decode cX7_likely 63 = .ok (.iinc 9 1, 3) := by decide +kernel
theorem dX7_likely_66 : decode cX7_likely 66 = .ok (.goto (-17), 3) := by decide +kernel
theorem dX7_likely_69 : decode cX7_likely 69 = .ok (.iconst 0, 1) := by decide +kernel
theorem dX7_likely_70 : decode cX7_likely 70 = .ok (.istore 9, 2) := by decide +kernel
theorem dX7_likely_72 : decode cX7_likely 72 = .ok (.iload 9, 2) := by decide +kernel
theorem dX7_likely_74 : decode cX7_likely 74 = .ok (.iconst 1, 1) := by decide +kernel
theorem dX7_likely_75 : decode cX7_likely 75 = .ok (.iload_n 2, 1) := by decide +kernel
theorem dX7_likely_76 : decode cX7_likely 76 = .ok (.ishl, 1) := by decide +kernel
theorem dX7_likely_77 : decode cX7_likely 77 = .ok (.if_icmp .ge 102, 3) := by decide +kernel
theorem dX7_likely_80 : decode cX7_likely 80 = .ok (.lconst 1, 1) := by decide +kernel
theorem dX7_likely_81 : decode cX7_likely 81 = .ok (.lstore 10, 2) := by decide +kernel
theorem dX7_likely_83 : decode cX7_likely 83 = .ok (.aload_n 0, 1) := by decide +kernel
theorem dX7_likely_84 : decode cX7_likely 84 = .ok (.invokevirtual 201, 3) := by decide +kernel
theorem dX7_likely_87 : decode cX7_likely 87 = .ok (.iconst 0, 1) := by decide +kernel
theorem dX7_likely_88 : decode cX7_likely 88 = .ok (.istore 12, 2) := by decide +kernel
theorem dX7_likely_90 : decode cX7_likely 90 = .ok (.iload 12, 2) := by decide +kernel
theorem dX7_likely_92 : decode cX7_likely 92 = .ok (.iload_n 2, 1) := by decide +kernel
theorem dX7_likely_93 : decode cX7_likely 93 = .ok (.if_icmp .ge 46, 3) := by decide +kernel
theorem dX7_likely_96 : decode cX7_likely 96 = .ok (.lload 10, 2) := by decide +kernel
theorem dX7_likely_98 : decode cX7_likely 98 = .ok (.iload 9, 2) := by decide +kernel
theorem dX7_likely_100 : decode cX7_likely 100 = .ok (.iload 12, 2) := by decide +kernel
theorem dX7_likely_102 : decode cX7_likely 102 = .ok (.invokestatic 243, 3) := by decide +kernel
theorem dX7_likely_105 : decode cX7_likely 105 = .ok (.ifCond .eq 8, 3) := by decide +kernel
theorem dX7_likely_108 : decode cX7_likely 108 = .ok (.iload_n 3, 1) := by decide +kernel
theorem dX7_likely_109 : decode cX7_likely 109 = .ok (.i2l, 1) := by decide +kernel
theorem dX7_likely_110 : decode cX7_likely 110 = .ok (.goto 8, 3) := by decide +kernel
theorem dX7_likely_113 : decode cX7_likely 113 = .ok (.bipush 10, 2) := by decide +kernel
theorem dX7_likely_115 : decode cX7_likely 115 = .ok (.iload_n 3, 1) := by decide +kernel
theorem dX7_likely_116 : decode cX7_likely 116 = .ok (.isub, 1) := by decide +kernel
theorem dX7_likely_117 : decode cX7_likely 117 = .ok (.i2l, 1) := by decide +kernel
theorem dX7_likely_118 : decode cX7_likely 118 = .ok (.lmul, 1) := by decide +kernel
theorem dX7_likely_119 : decode cX7_likely 119 = .ok (.lstore 10, 2) := by decide +kernel
theorem dX7_likely_121 : decode cX7_likely 121 = .ok (.aload_n 0, 1) := by decide +kernel
theorem dX7_likely_122 : decode cX7_likely 122 = .ok (.iload 9, 2) := by decide +kernel
theorem dX7_likely_124 : decode cX7_likely 124 = .ok (.iload 12, 2) := by decide +kernel
theorem dX7_likely_126 : decode cX7_likely 126 = .ok (.invokestatic 243, 3) := by decide +kernel
theorem dX7_likely_129 : decode cX7_likely 129 = .ok (.invokevirtual 158, 3) := by decide +kernel
theorem dX7_likely_132 : decode cX7_likely 132 = .ok (.pop, 1) := by decide +kernel
theorem dX7_likely_133 : decode cX7_likely 133 = .ok (.iinc 12 1, 3) := by decide +kernel
theorem dX7_likely_136 : decode cX7_likely 136 = .ok (.goto (-46), 3) := by decide +kernel
theorem dX7_likely_139 : decode cX7_likely 139 = .ok (.aload_n 0, 1) := by decide +kernel
theorem dX7_likely_140 : decode cX7_likely 140 = .ok (.bipush 60, 2) := by decide +kernel
theorem dX7_likely_142 : decode cX7_likely 142 = .ok (.iload_n 2, 1) := by decide +kernel
theorem dX7_likely_143 : decode cX7_likely 143 = .ok (.isub, 1) := by decide +kernel
theorem dX7_likely_144 : decode cX7_likely 144 = .ok (.invokevirtual 194, 3) := by decide +kernel
theorem dX7_likely_147 : decode cX7_likely 147 = .ok (.pop, 1) := by decide +kernel
theorem dX7_likely_148 : decode cX7_likely 148 = .ok (.lload 5, 2) := by decide +kernel
theorem dX7_likely_150 : decode cX7_likely 150 = .ok (.aload_n 0, 1) := by decide +kernel
theorem dX7_likely_151 : decode cX7_likely 151 = .ok (.getfield 34, 3) := by decide +kernel
theorem dX7_likely_154 : decode cX7_likely 154 = .ok (.iload_n 1, 1) := by decide +kernel
theorem dX7_likely_155 : decode cX7_likely 155 = .ok (.iaload, 1) := by decide +kernel
theorem dX7_likely_156 : decode cX7_likely 156 = .ok (.iconst 1, 1) := by decide +kernel
theorem dX7_likely_157 : decode cX7_likely 157 = .ok (.if_icmp .ne 8, 3) := by decide +kernel
theorem dX7_likely_160 : decode cX7_likely 160 = .ok (.lload 10, 2) := by decide +kernel
theorem dX7_likely_162 : decode cX7_likely 162 = .ok (.goto 4, 3) := by decide +kernel
theorem dX7_likely_165 : decode cX7_likely 165 = .ok (.lconst 0, 1) := by decide +kernel
theorem dX7_likely_166 : decode cX7_likely 166 = .ok (.ladd, 1) := by decide +kernel
theorem dX7_likely_167 : decode cX7_likely 167 = .ok (.lstore 5, 2) := by decide +kernel
theorem dX7_likely_169 : decode cX7_likely 169 = .ok (.aload_n 0, 1) := by decide +kernel
theorem dX7_likely_170 : decode cX7_likely 170 = .ok (.invokevirtual 213, 3) := by decide +kernel
theorem dX7_likely_173 : decode cX7_likely 173 = .ok (.iinc 9 1, 3) := by decide +kernel
theorem dX7_likely_176 : decode cX7_likely 176 = .ok (.goto (-104), 3) := by decide +kernel
theorem dX7_likely_179 : decode cX7_likely 179 = .ok (.lload 5, 2) := by decide +kernel
theorem dX7_likely_181 : decode cX7_likely 181 = .ok (.lload 7, 2) := by decide +kernel
theorem dX7_likely_183 : decode cX7_likely 183 = .ok (.invokestatic 246, 3) := by decide +kernel
theorem dX7_likely_186 : decode cX7_likely 186 = .ok (.lstore 9, 2) := by decide +kernel
theorem dX7_likely_188 : decode cX7_likely 188 = .ok (.iload 4, 2) := by decide +kernel
theorem dX7_likely_190 : decode cX7_likely 190 = .ok (.ifCond .ne 11, 3) := by decide +kernel
theorem dX7_likely_193 : decode cX7_likely 193 = .ok (.lload 5, 2) := by decide +kernel
theorem dX7_likely_195 : decode cX7_likely 195 = .ok (.lload 9, 2) := by decide +kernel
theorem dX7_likely_197 : decode cX7_likely 197 = .ok (.ldiv, 1) := by decide +kernel
theorem dX7_likely_198 : decode cX7_likely 198 = .ok (.goto 8, 3) := by decide +kernel
theorem dX7_likely_201 : decode cX7_likely 201 = .ok (.lload 7, 2) := by decide +kernel
theorem dX7_likely_203 : decode cX7_likely 203 = .ok (.lload 9, 2) := by decide +kernel
theorem dX7_likely_205 : decode cX7_likely 205 = .ok (.ldiv, 1) := by decide +kernel
theorem dX7_likely_206 : decode cX7_likely 206 = .ok (.l2i, 1) := by decide +kernel
theorem dX7_likely_207 : decode cX7_likely 207 = .ok (.ireturn, 1) := by decide +kernel
theorem dX7_year_0 : decode cX7_year 0 = .ok (.iload_n 1, 1) := by decide +kernel
theorem dX7_year_1 : decode cX7_year 1 = .ok (.iconst 0, 1) := by decide +kernel
theorem dX7_year_2 : decode cX7_year 2 = .ok (.sipush 9999, 3) := by decide +kernel
theorem dX7_year_5 : decode cX7_year 5 = .ok (.invokestatic 100, 3) := by decide +kernel
theorem dX7_year_8 : decode cX7_year 8 = .ok (.ifCond .eq 22, 3) := by decide +kernel
theorem dX7_year_11 : decode cX7_year 11 = .ok (.iload_n 2, 1) := by decide +kernel
theorem dX7_year_12 : decode cX7_year 12 = .ok (.iconst 1, 1) := by decide +kernel
theorem dX7_year_13 : decode cX7_year 13 = .ok (.bipush 60, 2) := by decide +kernel
theorem dX7_year_15 : decode cX7_year 15 = .ok (.invokestatic 100, 3) := by decide +kernel
theorem dX7_year_18 : decode cX7_year 18 = .ok (.ifCond .eq 12, 3) := by decide +kernel
theorem dX7_year_21 : decode cX7_year 21 = .ok (.iload_n 3, 1) := by decide +kernel
theorem dX7_year_22 : decode cX7_year 22 = .ok (.iconst 0, 1) := by decide +kernel
theorem dX7_year_23 : decode cX7_year 23 = .ok (.iconst 2, 1) := by decide +kernel
theorem dX7_year_24 : decode cX7_year 24 = .ok (.invokestatic 100, 3) := by decide +kernel
theorem dX7_year_27 : decode cX7_year 27 = .ok (.ifCond .ne 5, 3) := by decide +kernel
theorem dX7_year_30 : decode cX7_year 30 = .ok (.iconst (-1), 1) := by decide +kernel
theorem dX7_year_31 : decode cX7_year 31 = .ok (.ireturn, 1) := by decide +kernel
theorem dX7_year_32 : decode cX7_year 32 = .ok (.aload_n 0, 1) := by decide +kernel
theorem dX7_year_33 : decode cX7_year 33 = .ok (.invokevirtual 201, 3) := by decide +kernel
theorem dX7_year_36 : decode cX7_year 36 = .ok (.iconst 0, 1) := by decide +kernel
theorem dX7_year_37 : decode cX7_year 37 = .ok (.istore 4, 2) := by decide +kernel
theorem dX7_year_39 : decode cX7_year 39 = .ok (.iload 4, 2) := by decide +kernel
theorem dX7_year_41 : decode cX7_year 41 = .ok (.iload_n 2, 1) := by decide +kernel
theorem dX7_year_42 : decode cX7_year 42 = .ok (.if_icmp .ge 137, 3) := by decide +kernel
theorem dX7_year_45 : decode cX7_year 45 = .ok (.ldc2_w 250, 3) := by decide +kernel
theorem dX7_year_48 : decode cX7_year 48 = .ok (.iload_n 1, 1) := by decide +kernel
theorem dX7_year_49 : decode cX7_year 49 = .ok (.i2l, 1) := by decide +kernel
theorem dX7_year_50 : decode cX7_year 50 = .ok (.lmul, 1) := by decide +kernel
theorem dX7_year_51 : decode cX7_year 51 = .ok (.ldc2_w 252, 3) := by decide +kernel
theorem dX7_year_54 : decode cX7_year 54 = .ok (.iload 4, 2) := by decide +kernel
theorem dX7_year_56 : decode cX7_year 56 = .ok (.i2l, 1) := by decide +kernel
theorem dX7_year_57 : decode cX7_year 57 = .ok (.lmul, 1) := by decide +kernel
theorem dX7_year_58 : decode cX7_year 58 = .ok (.ladd, 1) := by decide +kernel
theorem dX7_year_59 : decode cX7_year 59 = .ok (.lconst 1, 1) := by decide +kernel
theorem dX7_year_60 : decode cX7_year 60 = .ok (.ladd, 1) := by decide +kernel
theorem dX7_year_61 : decode cX7_year 61 = .ok (.lstore 5, 2) := by decide +kernel
theorem dX7_year_63 : decode cX7_year 63 = .ok (.lload 5, 2) := by decide +kernel
theorem dX7_year_65 : decode cX7_year 65 = .ok (.lload 5, 2) := by decide +kernel
theorem dX7_year_67 : decode cX7_year 67 = .ok (.lmul, 1) := by decide +kernel
theorem dX7_year_68 : decode cX7_year 68 = .ok (.ldc2_w 254, 3) := by decide +kernel
theorem dX7_year_71 : decode cX7_year 71 = .ok (.lrem, 1) := by decide +kernel
theorem dX7_year_72 : decode cX7_year 72 = .ok (.ldc2_w 256, 3) := by decide +kernel
theorem dX7_year_75 : decode cX7_year 75 = .ok (.ldiv, 1) := by decide +kernel
theorem dX7_year_76 : decode cX7_year 76 = .ok (.l2i, 1) := by decide +kernel
theorem dX7_year_77 : decode cX7_year 77 = .ok (.istore 7, 2) := by decide +kernel
theorem dX7_year_79 : decode cX7_year 79 = .ok (.iload 7, 2) := by decide +kernel
theorem dX7_year_81 : decode cX7_year 81 = .ok (.aload_n 0, 1) := by decide +kernel
theorem dX7_year_82 : decode cX7_year 82 = .ok (.getfield 84, 3) := by decide +kernel
theorem dX7_year_85 : decode cX7_year 85 = .ok (.irem, 1) := by decide +kernel
theorem dX7_year_86 : decode cX7_year 86 = .ok (.istore 8, 2) := by decide +kernel
theorem dX7_year_88 : decode cX7_year 88 = .ok (.iload 7, 2) := by decide +kernel
theorem dX7_year_90 : decode cX7_year 90 = .ok (.bipush 8, 2) := by decide +kernel
theorem dX7_year_92 : decode cX7_year 92 = .ok (.idiv, 1) := by decide +kernel
theorem dX7_year_93 : decode cX7_year 93 = .ok (.iconst 4, 1) := by decide +kernel
theorem dX7_year_94 : decode cX7_year 94 = .ok (.irem, 1) := by decide +kernel
theorem dX7_year_95 : decode cX7_year 95 = .ok (.istore 9, 2) := by decide +kernel
theorem dX7_year_97 : decode cX7_year 97 = .ok (.iload 9, 2) := by decide +kernel
theorem dX7_year_99 : decode cX7_year 99 = .ok (.iconst 2, 1) := by decide +kernel
theorem dX7_year_100 : decode cX7_year 100 = .ok (.if_icmp .ge 21, 3) := by decide +kernel
theorem dX7_year_103 : decode cX7_year 103 = .ok (.aload_n 0, 1) := by decide +kernel
theorem dX7_year_104 : decode cX7_year 104 = .ok (.iload 8, 2) := by decide +kernel
theorem dX7_year_106 : decode cX7_year 106 = .ok (.invokevirtual 182, 3) := by decide +kernel
theorem dX7_year_109 : decode cX7_year 109 = .ok (.ifCond .eq 12, 3) := by decide +kernel
theorem dX7_year_112 : decode cX7_year 112 = .ok (.aload_n 0, 1) := by decide +kernel
theorem dX7_year_113 : decode cX7_year 113 = .ok (.iload 8, 2) := by decide +kernel
theorem dX7_year_115 : decode cX7_year 115 = .ok (.invokevirtual 188, 3) := by decide +kernel
theorem dX7_year_118 : decode cX7_year 118 = .ok (.goto 49, 3) := by decide +kernel
theorem dX7_year_121 : decode cX7_year 121 = .ok (.iload 9, 2) := by decide +kernel
theorem dX7_year_123 : decode cX7_year 123 = .ok (.iconst 2, 1) := by decide +kernel
theorem dX7_year_124 : decode cX7_year 124 = .ok (.if_icmp .ne 22, 3) := by decide +kernel
theorem dX7_year_127 : decode cX7_year 127 = .ok (.aload_n 0, 1) := by decide +kernel
theorem dX7_year_128 : decode cX7_year 128 = .ok (.getfield 22, 3) := by decide +kernel
theorem dX7_year_131 : decode cX7_year 131 = .ok (.iload 8, 2) := by decide +kernel
theorem dX7_year_133 : decode cX7_year 133 = .ok (.iaload, 1) := by decide +kernel
theorem dX7_year_134 : decode cX7_year 134 = .ok (.ifCond .le 12, 3) := by decide +kernel
theorem dX7_year_137 : decode cX7_year 137 = .ok (.aload_n 0, 1) := by decide +kernel
theorem dX7_year_138 : decode cX7_year 138 = .ok (.iload 8, 2) := by decide +kernel
theorem dX7_year_140 : decode cX7_year 140 = .ok (.invokevirtual 191, 3) := by decide +kernel
theorem dX7_year_143 : decode cX7_year 143 = .ok (.goto 24, 3) := by decide +kernel
theorem dX7_year_146 : decode cX7_year 146 = .ok (.iload 9, 2) := by decide +kernel
theorem dX7_year_148 : decode cX7_year 148 = .ok (.iconst 3, 1) := by decide +kernel
theorem dX7_year_149 : decode cX7_year 149 = .ok (.if_icmp .ne 18, 3) := by decide +kernel
theorem dX7_year_152 : decode cX7_year 152 = .ok (.aload_n 0, 1) := by decide +kernel
theorem dX7_year_153 : decode cX7_year 153 = .ok (.bipush 20, 2) := by decide +kernel
theorem dX7_year_155 : decode cX7_year 155 = .ok (.aload_n 0, 1) := by decide +kernel
theorem dX7_year_156 : decode cX7_year 156 = .ok (.getfield 91, 3) := by decide +kernel
theorem dX7_year_159 : decode cX7_year 159 = .ok (.iconst 1, 1) := by decide +kernel
theorem dX7_year_160 : decode cX7_year 160 = .ok (.iadd, 1) := by decide +kernel
theorem dX7_year_161 : decode cX7_year 161 = .ok (.invokestatic 179, 3) := by decide +kernel
theorem dX7_year_164 : decode cX7_year 164 = .ok (.putfield 91, 3) := by decide +kernel
theorem dX7_year_167 : decode cX7_year 167 = .ok (.aload_n 0, 1) := by decide +kernel
theorem dX7_year_168 : decode cX7_year 168 = .ok (.iconst 0, 1) := by decide +kernel
theorem dX7_year_169 : decode cX7_year 169 = .ok (.invokevirtual 158, 3) := by decide +kernel
theorem dX7_year_172 : decode cX7_year 172 = .ok (.pop, 1) := by decide +kernel
theorem dX7_year_173 : decode cX7_year 173 = .ok (.iinc 4 1, 3) := by decide +kernel
theorem dX7_year_176 : decode cX7_year 176 = .ok (.goto (-137), 3) := by decide +kernel
theorem dX7_year_179 : decode cX7_year 179 = .ok (.iload_n 3, 1) := by decide +kernel
theorem dX7_year_180 : decode cX7_year 180 = .ok (.ifCond .ne 10, 3) := by decide +kernel
theorem dX7_year_183 : decode cX7_year 183 = .ok (.aload_n 0, 1) := by decide +kernel
theorem dX7_year_184 : decode cX7_year 184 = .ok (.invokevirtual 216, 3) := by decide +kernel
theorem dX7_year_187 : decode cX7_year 187 = .ok (.goto 22, 3) := by decide +kernel
theorem dX7_year_190 : decode cX7_year 190 = .ok (.iload_n 3, 1) := by decide +kernel
theorem dX7_year_191 : decode cX7_year 191 = .ok (.iconst 1, 1) := by decide +kernel
theorem dX7_year_192 : decode cX7_year 192 = .ok (.if_icmp .ne 13, 3) := by decide +kernel
theorem dX7_year_195 : decode cX7_year 195 = .ok (.aload_n 0, 1) := by decide +kernel
theorem dX7_year_196 : decode cX7_year 196 = .ok (.invokevirtual 207, 3) := by decide +kernel
theorem dX7_year_199 : decode cX7_year 199 = .ok (.invokestatic 258, 3) := by decide +kernel
theorem dX7_year_202 : decode cX7_year 202 = .ok (.goto 7, 3) := by decide +kernel
theorem dX7_year_205 : decode cX7_year 205 = .ok (.aload_n 0, 1) := by decide +kernel
theorem dX7_year_206 : decode cX7_year 206 = .ok (.getfield 91, 3) := by decide +kernel
theorem dX7_year_209 : decode cX7_year 209 = .ok (.istore 4, 2) := by decide +kernel
theorem dX7_year_211 : decode cX7_year 211 = .ok (.aload_n 0, 1) := by decide +kernel
theorem dX7_year_212 : decode cX7_year 212 = .ok (.invokevirtual 213, 3) := by decide +kernel
theorem dX7_year_215 : decode cX7_year 215 = .ok (.iload 4, 2) := by decide +kernel
theorem dX7_year_217 : decode cX7_year 217 = .ok (.ireturn, 1) := by decide +kernel
theorem dX7_keep_0 : decode cX7_keep 0 = .ok (.aload_n 0, 1) := by decide +kernel
theorem dX7_keep_1 : decode cX7_keep 1 = .ok (.getfield 148, 3) := by decide +kernel
theorem dX7_keep_4 : decode cX7_keep 4 = .ok (.iconst 2, 1) := by decide +kernel
theorem dX7_keep_5 : decode cX7_keep 5 = .ok (.if_icmp .ne 6, 3) := by decide +kernel
theorem dX7_keep_8 : decode cX7_keep 8 = .ok (.bipush (-3), 2) := by decide +kernel
theorem dX7_keep_10 : decode cX7_keep 10 = .ok (.ireturn, 1) := by decide +kernel
theorem dX7_keep_11 : decode cX7_keep 11 = .ok (.aload_n 0, 1) := by decide +kernel
theorem dX7_keep_12 : decode cX7_keep 12 = .ok (.aload_n 0, 1) := by decide +kernel
theorem dX7_keep_13 : decode cX7_keep 13 = .ok (.getfield 73, 3) := by decide +kernel
theorem dX7_keep_16 : decode cX7_keep 16 = .ok (.bipush 52, 2) := by decide +kernel
theorem dX7_keep_18 : decode cX7_keep 18 = .ok (.aload_n 0, 1) := by decide +kernel
theorem dX7_keep_19 : decode cX7_keep 19 = .ok (.getfield 148, 3) := by decide +kernel
theorem dX7_keep_22 : decode cX7_keep 22 = .ok (.imul, 1) := by decide +kernel
theorem dX7_keep_23 : decode cX7_keep 23 = .ok (.invokevirtual 169, 3) := by decide +kernel
theorem dX7_keep_26 : decode cX7_keep 26 = .ok (.aload_n 0, 1) := by decide +kernel
theorem dX7_keep_27 : decode cX7_keep 27 = .ok (.dup, 1) := by decide +kernel
theorem dX7_keep_28 : decode cX7_keep 28 = .ok (.getfield 148, 3) := by decide +kernel
theorem dX7_keep_31 : decode cX7_keep 31 = .ok (.iconst 1, 1) := by decide +kernel
theorem dX7_keep_32 : decode cX7_keep 32 = .ok (.iadd, 1) := by decide +kernel
theorem dX7_keep_33 : decode cX7_keep 33 = .ok (.putfield 148, 3) := by decide +kernel
theorem dX7_keep_36 : decode cX7_keep 36 = .ok (.aload_n 0, 1) := by decide +kernel
theorem dX7_keep_37 : decode cX7_keep 37 = .ok (.getfield 148, 3) := by decide +kernel
theorem dX7_keep_40 : decode cX7_keep 40 = .ok (.ireturn, 1) := by decide +kernel
theorem dX7_back_0 : decode cX7_back 0 = .ok (.aload_n 0, 1) := by decide +kernel
theorem dX7_back_1 : decode cX7_back 1 = .ok (.getfield 148, 3) := by decide +kernel
theorem dX7_back_4 : decode cX7_back 4 = .ok (.ifCond .ne 6, 3) := by decide +kernel
theorem dX7_back_7 : decode cX7_back 7 = .ok (.bipush (-2), 2) := by decide +kernel
theorem dX7_back_9 : decode cX7_back 9 = .ok (.ireturn, 1) := by decide +kernel
theorem dX7_back_10 : decode cX7_back 10 = .ok (.aload_n 0, 1) := by decide +kernel
theorem dX7_back_11 : decode cX7_back 11 = .ok (.dup, 1) := by decide +kernel
theorem dX7_back_12 : decode cX7_back 12 = .ok (.getfield 148, 3) := by decide +kernel
theorem dX7_back_15 : decode cX7_back 15 = .ok (.iconst 1, 1) := by decide +kernel
theorem dX7_back_16 : decode cX7_back 16 = .ok (.isub, 1) := by decide +kernel
theorem dX7_back_17 : decode cX7_back 17 = .ok (.putfield 148, 3) := by decide +kernel
theorem dX7_back_20 : decode cX7_back 20 = .ok (.aload_n 0, 1) := by decide +kernel
theorem dX7_back_21 : decode cX7_back 21 = .ok (.aload_n 0, 1) := by decide +kernel
theorem dX7_back_22 : decode cX7_back 22 = .ok (.getfield 73, 3) := by decide +kernel
theorem dX7_back_25 : decode cX7_back 25 = .ok (.bipush 52, 2) := by decide +kernel
theorem dX7_back_27 : decode cX7_back 27 = .ok (.aload_n 0, 1) := by decide +kernel
theorem dX7_back_28 : decode cX7_back 28 = .ok (.getfield 148, 3) := by decide +kernel
theorem dX7_back_31 : decode cX7_back 31 = .ok (.imul, 1) := by decide +kernel
theorem dX7_back_32 : decode cX7_back 32 = .ok (.invokevirtual 198, 3) := by decide +kernel
theorem dX7_back_35 : decode cX7_back 35 = .ok (.aload_n 0, 1) := by decide +kernel
theorem dX7_back_36 : decode cX7_back 36 = .ok (.iconst 0, 1) := by decide +kernel
theorem dX7_back_37 : decode cX7_back 37 = .ok (.putfield 145, 3) := by decide +kernel
theorem dX7_back_40 : decode cX7_back 40 = .ok (.aload_n 0, 1) := by decide +kernel
theorem dX7_back_41 : decode cX7_back 41 = .ok (.getfield 148, 3) := by decide +kernel
theorem dX7_back_44 : decode cX7_back 44 = .ok (.ireturn, 1) := by decide +kernel
theorem dX7_sumOf_0 : decode cX7_sumOf 0 = .ok (.iconst 0, 1) := by decide +kernel
theorem dX7_sumOf_1 : decode cX7_sumOf 1 = .ok (.istore_n 2, 1) := by decide +kernel
theorem dX7_sumOf_2 : decode cX7_sumOf 2 = .ok (.iconst 0, 1) := by decide +kernel
theorem dX7_sumOf_3 : decode cX7_sumOf 3 = .ok (.istore_n 3, 1) := by decide +kernel
theorem dX7_sumOf_4 : decode cX7_sumOf 4 = .ok (.iload_n 3, 1) := by decide +kernel
theorem dX7_sumOf_5 : decode cX7_sumOf 5 = .ok (.aload_n 0, 1) := by decide +kernel
theorem dX7_sumOf_6 : decode cX7_sumOf 6 = .ok (.getfield 84, 3) := by decide +kernel
theorem dX7_sumOf_9 : decode cX7_sumOf 9 = .ok (.if_icmp .ge 15, 3) := by decide +kernel
theorem dX7_sumOf_12 : decode cX7_sumOf 12 = .ok (.iload_n 2, 1) := by decide +kernel
theorem dX7_sumOf_13 : decode cX7_sumOf 13 = .ok (.aload_n 1, 1) := by decide +kernel
theorem dX7_sumOf_14 : decode cX7_sumOf 14 = .ok (.iload_n 3, 1) := by decide +kernel
theorem dX7_sumOf_15 : decode cX7_sumOf 15 = .ok (.iaload, 1) := by decide +kernel
theorem dX7_sumOf_16 : decode cX7_sumOf 16 = .ok (.iadd, 1) := by decide +kernel
theorem dX7_sumOf_17 : decode cX7_sumOf 17 = .ok (.istore_n 2, 1) := by decide +kernel
theorem dX7_sumOf_18 : decode cX7_sumOf 18 = .ok (.iinc 3 1, 3) := by decide +kernel
theorem dX7_sumOf_21 : decode cX7_sumOf 21 = .ok (.goto (-17), 3) := by decide +kernel
theorem dX7_sumOf_24 : decode cX7_sumOf 24 = .ok (.iload_n 2, 1) := by decide +kernel
theorem dX7_sumOf_25 : decode cX7_sumOf 25 = .ok (.ireturn, 1) := by decide +kernel
theorem dX7_count_0 : decode cX7_count 0 = .ok (.iload_n 1, 1) := by decide +kernel
theorem dX7_count_1 : decode cX7_count 1 = .ok (.iconst 0, 1) := by decide +kernel
theorem dX7_count_2 : decode cX7_count 2 = .ok (.bipush 11, 2) := by decide +kernel
theorem dX7_count_4 : decode cX7_count 4 = .ok (.invokestatic 100, 3) := by decide +kernel
theorem dX7_count_7 : decode cX7_count 7 = .ok (.ifCond .ne 5, 3) := by decide +kernel
theorem dX7_count_10 : decode cX7_count 10 = .ok (.iconst (-1), 1) := by decide +kernel
theorem dX7_count_11 : decode cX7_count 11 = .ok (.ireturn, 1) := by decide +kernel
theorem dX7_count_12 : decode cX7_count 12 = .ok (.iload_n 1, 1) := by decide +kernel
theorem dX7_count_13 : decode cX7_count 13 = .ok (.tableswitch 127 0 10 #[59, 64, 69, 74, 83, 91, 99, 107, 112, 117, 122], 59) := by decide +kernel
theorem dX7_count_72 : decode cX7_count 72 = .ok (.aload_n 0, 1) := by decide +kernel
theorem dX7_count_73 : decode cX7_count 73 = .ok (.getfield 84, 3) := by decide +kernel
theorem dX7_count_76 : decode cX7_count 76 = .ok (.ireturn, 1) := by decide +kernel
theorem dX7_count_77 : decode cX7_count 77 = .ok (.aload_n 0, 1) := by decide +kernel
theorem dX7_count_78 : decode cX7_count 78 = .ok (.getfield 88, 3) := by decide +kernel
theorem dX7_count_81 : decode cX7_count 81 = .ok (.ireturn, 1) := by decide +kernel
theorem dX7_count_82 : decode cX7_count 82 = .ok (.aload_n 0, 1) := by decide +kernel
theorem dX7_count_83 : decode cX7_count 83 = .ok (.getfield 91, 3) := by decide +kernel
theorem dX7_count_86 : decode cX7_count 86 = .ok (.ireturn, 1) := by decide +kernel
theorem dX7_count_87 : decode cX7_count 87 = .ok (.aload_n 0, 1) := by decide +kernel
theorem dX7_count_88 : decode cX7_count 88 = .ok (.aload_n 0, 1) := by decide +kernel
theorem dX7_count_89 : decode cX7_count 89 = .ok (.getfield 22, 3) := by decide +kernel
theorem dX7_count_92 : decode cX7_count 92 = .ok (.invokevirtual 261, 3) := by decide +kernel
theorem dX7_count_95 : decode cX7_count 95 = .ok (.ireturn, 1) := by decide +kernel
theorem dX7_count_96 : decode cX7_count 96 = .ok (.aload_n 0, 1) := by decide +kernel
theorem dX7_count_97 : decode cX7_count 97 = .ok (.invokevirtual 204, 3) := by decide +kernel
theorem dX7_count_100 : decode cX7_count 100 = .ok (.invokestatic 258, 3) := by decide +kernel
theorem dX7_count_103 : decode cX7_count 103 = .ok (.ireturn, 1) := by decide +kernel
theorem dX7_count_104 : decode cX7_count 104 = .ok (.aload_n 0, 1) := by decide +kernel
theorem dX7_count_105 : decode cX7_count 105 = .ok (.invokevirtual 207, 3) := by decide +kernel
theorem dX7_count_108 : decode cX7_count 108 = .ok (.invokestatic 258, 3) := by decide +kernel
theorem dX7_count_111 : decode cX7_count 111 = .ok (.ireturn, 1) := by decide +kernel
theorem dX7_count_112 : decode cX7_count 112 = .ok (.aload_n 0, 1) := by decide +kernel
theorem dX7_count_113 : decode cX7_count 113 = .ok (.invokevirtual 210, 3) := by decide +kernel
theorem dX7_count_116 : decode cX7_count 116 = .ok (.invokestatic 258, 3) := by decide +kernel
theorem dX7_count_119 : decode cX7_count 119 = .ok (.ireturn, 1) := by decide +kernel
theorem dX7_count_120 : decode cX7_count 120 = .ok (.aload_n 0, 1) := by decide +kernel
theorem dX7_count_121 : decode cX7_count 121 = .ok (.getfield 97, 3) := by decide +kernel
theorem dX7_count_124 : decode cX7_count 124 = .ok (.ireturn, 1) := by decide +kernel
theorem dX7_count_125 : decode cX7_count 125 = .ok (.aload_n 0, 1) := by decide +kernel
theorem dX7_count_126 : decode cX7_count 126 = .ok (.getfield 142, 3) := by decide +kernel
theorem dX7_count_129 : decode cX7_count 129 = .ok (.ireturn, 1) := by decide +kernel
theorem dX7_count_130 : decode cX7_count 130 = .ok (.aload_n 0, 1) := by decide +kernel
theorem dX7_count_131 : decode cX7_count 131 = .ok (.getfield 145, 3) := by decide +kernel
theorem dX7_count_134 : decode cX7_count 134 = .ok (.ireturn, 1) := by decide +kernel
theorem dX7_count_135 : decode cX7_count 135 = .ok (.aload_n 0, 1) := by decide +kernel
theorem dX7_count_136 : decode cX7_count 136 = .ok (.getfield 148, 3) := by decide +kernel
theorem dX7_count_139 : decode cX7_count 139 = .ok (.ireturn, 1) := by decide +kernel
theorem dX7_count_140 : decode cX7_count 140 = .ok (.aload_n 0, 1) := by decide +kernel
theorem dX7_count_141 : decode cX7_count 141 = .ok (.getfield 104, 3) := by decide +kernel
theorem dX7_count_144 : decode cX7_count 144 = .ok (.ireturn, 1) := by decide +kernel
theorem dL_law_0 : decode cL_law 0 = .ok (.new 7, 3) := by decide +kernel
theorem dL_law_3 : decode cL_law 3 = .ok (.dup, 1) := by decide +kernel
theorem dL_law_4 : decode cL_law 4 = .ok (.invokespecial 9, 3) := by decide +kernel
theorem dL_law_7 : decode cL_law 7 = .ok (.astore_n 1, 1) := by decide +kernel
theorem dL_law_8 : decode cL_law 8 = .ok (.new 10, 3) := by decide +kernel
theorem dL_law_11 : decode cL_law 11 = .ok (.dup, 1) := by decide +kernel
theorem dL_law_12 : decode cL_law 12 = .ok (.invokespecial 12, 3) := by decide +kernel
theorem dL_law_15 : decode cL_law 15 = .ok (.astore_n 2, 1) := by decide +kernel
theorem dL_law_16 : decode cL_law 16 = .ok (.iconst 0, 1) := by decide +kernel
theorem dL_law_17 : decode cL_law 17 = .ok (.istore_n 3, 1) := by decide +kernel
theorem dL_law_18 : decode cL_law 18 = .ok (.iload_n 3, 1) := by decide +kernel
theorem dL_law_19 : decode cL_law 19 = .ok (.aload_n 0, 1) := by decide +kernel
theorem dL_law_20 : decode cL_law 20 = .ok (.arraylength, 1) := by decide +kernel
theorem dL_law_21 : decode cL_law 21 = .ok (.iconst 5, 1) := by decide +kernel
theorem dL_law_22 : decode cL_law 22 = .ok (.isub, 1) := by decide +kernel
theorem dL_law_23 : decode cL_law 23 = .ok (.if_icmp .gt 706, 3) := by decide +kernel
theorem dL_law_26 : decode cL_law 26 = .ok (.aload_n 0, 1) := by decide +kernel
theorem dL_law_27 : decode cL_law 27 = .ok (.iload_n 3, 1) := by decide +kernel
theorem dL_law_28 : decode cL_law 28 = .ok (.iaload, 1) := by decide +kernel
theorem dL_law_29 : decode cL_law 29 = .ok (.bipush 31, 2) := by decide +kernel
theorem dL_law_31 : decode cL_law 31 = .ok (.iand, 1) := by decide +kernel
theorem dL_law_32 : decode cL_law 32 = .ok (.tableswitch 691 0 24 #[116, 139, 152, 165, 178, 211, 234, 257, 270, 293, 306, 339, 362, 375, 398, 421, 434, 477, 490, 513, 546, 599, 642, 655, 668], 116) := by decide +kernel
theorem dL_law_148 : decode cL_law 148 = .ok (.aload_n 1, 1) := by decide +kernel
theorem dL_law_149 : decode cL_law 149 = .ok (.aload_n 0, 1) := by decide +kernel
theorem dL_law_150 : decode cL_law 150 = .ok (.iload_n 3, 1) := by decide +kernel
theorem dL_law_151 : decode cL_law 151 = .ok (.iconst 1, 1) := by decide +kernel
theorem dL_law_152 : decode cL_law 152 = .ok (.iadd, 1) := by decide +kernel
theorem dL_law_153 : decode cL_law 153 = .ok (.iaload, 1) := by decide +kernel
theorem dL_law_154 : decode cL_law 154 = .ok (.invokevirtual 13, 3) := by decide +kernel
theorem dL_law_157 : decode cL_law 157 = .ok (.aload_n 2, 1) := by decide +kernel
theorem dL_law_158 : decode cL_law 158 = .ok (.aload_n 0, 1) := by decide +kernel
theorem dL_law_159 : decode cL_law 159 = .ok (.iload_n 3, 1) := by decide +kernel
theorem dL_law_160 : decode cL_law 160 = .ok (.iconst 1, 1) := by decide +kernel
theorem dL_law_161 : decode cL_law 161 = .ok (.iadd, 1) := by decide +kernel
theorem dL_law_162 : decode cL_law 162 = .ok (.iaload, 1) := by decide +kernel
theorem dL_law_163 : decode cL_law 163 = .ok (.invokevirtual 17, 3) := by decide +kernel
theorem dL_law_166 : decode cL_law 166 = .ok (.if_icmp .eq 557, 3) := by decide +kernel
theorem dL_law_169 : decode cL_law 169 = .ok (.iconst 0, 1) := by decide +kernel
theorem dL_law_170 : decode cL_law 170 = .ok (.ireturn, 1) := by decide +kernel
theorem dL_law_171 : decode cL_law 171 = .ok (.aload_n 1, 1) := by decide +kernel
theorem dL_law_172 : decode cL_law 172 = .ok (.invokevirtual 18, 3) := by decide +kernel
theorem dL_law_175 : decode cL_law 175 = .ok (.aload_n 2, 1) := by decide +kernel
theorem dL_law_176 : decode cL_law 176 = .ok (.invokevirtual 22, 3) := by decide +kernel
theorem dL_law_179 : decode cL_law 179 = .ok (.if_icmp .eq 544, 3) := by decide +kernel
theorem dL_law_182 : decode cL_law 182 = .ok (.iconst 0, 1) := by decide +kernel
theorem dL_law_183 : decode cL_law 183 = .ok (.ireturn, 1) := by decide +kernel
theorem dL_law_184 : decode cL_law 184 = .ok (.aload_n 1, 1) := by decide +kernel
theorem dL_law_185 : decode cL_law 185 = .ok (.invokevirtual 23, 3) := by decide +kernel
theorem dL_law_188 : decode cL_law 188 = .ok (.aload_n 2, 1) := by decide +kernel
theorem dL_law_189 : decode cL_law 189 = .ok (.invokevirtual 26, 3) := by decide +kernel
theorem dL_law_192 : decode cL_law 192 = .ok (.if_icmp .eq 531, 3) := by decide +kernel
theorem dL_law_195 : decode cL_law 195 = .ok (.iconst 0, 1) := by decide +kernel
theorem dL_law_196 : decode cL_law 196 = .ok (.ireturn, 1) := by decide +kernel
theorem dL_law_197 : decode cL_law 197 = .ok (.aload_n 1, 1) := by decide +kernel
theorem dL_law_198 : decode cL_law 198 = .ok (.invokevirtual 27, 3) := by decide +kernel
theorem dL_law_201 : decode cL_law 201 = .ok (.aload_n 2, 1) := by decide +kernel
theorem dL_law_202 : decode cL_law 202 = .ok (.invokevirtual 30, 3) := by decide +kernel
theorem dL_law_205 : decode cL_law 205 = .ok (.if_icmp .eq 518, 3) := by decide +kernel
theorem dL_law_208 : decode cL_law 208 = .ok (.iconst 0, 1) := by decide +kernel
theorem dL_law_209 : decode cL_law 209 = .ok (.ireturn, 1) := by decide +kernel
theorem dL_law_210 : decode cL_law 210 = .ok (.aload_n 1, 1) := by decide +kernel
theorem dL_law_211 : decode cL_law 211 = .ok (.aload_n 0, 1) := by decide +kernel
theorem dL_law_212 : decode cL_law 212 = .ok (.iload_n 3, 1) := by decide +kernel
theorem dL_law_213 : decode cL_law 213 = .ok (.iconst 1, 1) := by decide +kernel
theorem dL_law_214 : decode cL_law 214 = .ok (.iadd, 1) := by decide +kernel
theorem dL_law_215 : decode cL_law 215 = .ok (.iaload, 1) := by decide +kernel
theorem dL_law_216 : decode cL_law 216 = .ok (.aload_n 0, 1) := by decide +kernel
theorem dL_law_217 : decode cL_law 217 = .ok (.iload_n 3, 1) := by decide +kernel
theorem dL_law_218 : decode cL_law 218 = .ok (.iconst 2, 1) := by decide +kernel
theorem dL_law_219 : decode cL_law 219 = .ok (.iadd, 1) := by decide +kernel
theorem dL_law_220 : decode cL_law 220 = .ok (.iaload, 1) := by decide +kernel
theorem dL_law_221 : decode cL_law 221 = .ok (.invokevirtual 31, 3) := by decide +kernel
theorem dL_law_224 : decode cL_law 224 = .ok (.aload_n 2, 1) := by decide +kernel
theorem dL_law_225 : decode cL_law 225 = .ok (.aload_n 0, 1) := by decide +kernel
theorem dL_law_226 : decode cL_law 226 = .ok (.iload_n 3, 1) := by decide +kernel
theorem dL_law_227 : decode cL_law 227 = .ok (.iconst 1, 1) := by decide +kernel
theorem dL_law_228 : decode cL_law 228 = .ok (.iadd, 1) := by decide +kernel
theorem dL_law_229 : decode cL_law 229 = .ok (.iaload, 1) := by decide +kernel
theorem dL_law_230 : decode cL_law 230 = .ok (.aload_n 0, 1) := by decide +kernel
theorem dL_law_231 : decode cL_law 231 = .ok (.iload_n 3, 1) := by decide +kernel
theorem dL_law_232 : decode cL_law 232 = .ok (.iconst 2, 1) := by decide +kernel
theorem dL_law_233 : decode cL_law 233 = .ok (.iadd, 1) := by decide +kernel
theorem dL_law_234 : decode cL_law 234 = .ok (.iaload, 1) := by decide +kernel
theorem dL_law_235 : decode cL_law 235 = .ok (.invokevirtual 35, 3) := by decide +kernel
theorem dL_law_238 : decode cL_law 238 = .ok (.if_icmp .eq 485, 3) := by decide +kernel
theorem dL_law_241 : decode cL_law 241 = .ok (.iconst 0, 1) := by decide +kernel
theorem dL_law_242 : decode cL_law 242 = .ok (.ireturn, 1) := by decide +kernel
theorem dL_law_243 : decode cL_law 243 = .ok (.aload_n 1, 1) := by decide +kernel
theorem dL_law_244 : decode cL_law 244 = .ok (.aload_n 0, 1) := by decide +kernel
theorem dL_law_245 : decode cL_law 245 = .ok (.iload_n 3, 1) := by decide +kernel
theorem dL_law_246 : decode cL_law 246 = .ok (.iconst 1, 1) := by decide +kernel
theorem dL_law_247 : decode cL_law 247 = .ok (.iadd, 1) := by decide +kernel
theorem dL_law_248 : decode cL_law 248 = .ok (.iaload, 1) := by decide +kernel
theorem dL_law_249 : decode cL_law 249 = .ok (.invokevirtual 36, 3) := by decide +kernel
theorem dL_law_252 : decode cL_law 252 = .ok (.aload_n 2, 1) := by decide +kernel
theorem dL_law_253 : decode cL_law 253 = .ok (.aload_n 0, 1) := by decide +kernel
theorem dL_law_254 : decode cL_law 254 = .ok (.iload_n 3, 1) := by decide +kernel
theorem dL_law_255 : decode cL_law 255 = .ok (.iconst 1, 1) := by decide +kernel
theorem dL_law_256 : decode cL_law 256 = .ok (.iadd, 1) := by decide +kernel
theorem dL_law_257 : decode cL_law 257 = .ok (.iaload, 1) := by decide +kernel
theorem dL_law_258 : decode cL_law 258 = .ok (.invokevirtual 39, 3) := by decide +kernel
theorem dL_law_261 : decode cL_law 261 = .ok (.if_icmp .eq 462, 3) := by decide +kernel
theorem dL_law_264 : decode cL_law 264 = .ok (.iconst 0, 1) := by decide +kernel
theorem dL_law_265 : decode cL_law 265 = .ok (.ireturn, 1) := by decide +kernel
theorem dL_law_266 : decode cL_law 266 = .ok (.aload_n 1, 1) := by decide +kernel
theorem dL_law_267 : decode cL_law 267 = .ok (.aload_n 0, 1) := by decide +kernel
theorem dL_law_268 : decode cL_law 268 = .ok (.iload_n 3, 1) := by decide +kernel
theorem dL_law_269 : decode cL_law 269 = .ok (.iconst 1, 1) := by decide +kernel
theorem dL_law_270 : decode cL_law 270 = .ok (.iadd, 1) := by decide +kernel
theorem dL_law_271 : decode cL_law 271 = .ok (.iaload, 1) := by decide +kernel
theorem dL_law_272 : decode cL_law 272 = .ok (.invokevirtual 40, 3) := by decide +kernel
theorem dL_law_275 : decode cL_law 275 = .ok (.aload_n 2, 1) := by decide +kernel
theorem dL_law_276 : decode cL_law 276 = .ok (.aload_n 0, 1) := by decide +kernel
theorem dL_law_277 : decode cL_law 277 = .ok (.iload_n 3, 1) := by decide +kernel
theorem dL_law_278 : decode cL_law 278 = .ok (.iconst 1, 1) := by decide +kernel
theorem dL_law_279 : decode cL_law 279 = .ok (.iadd, 1) := by decide +kernel
theorem dL_law_280 : decode cL_law 280 = .ok (.iaload, 1) := by decide +kernel
theorem dL_law_281 : decode cL_law 281 = .ok (.invokevirtual 43, 3) := by decide +kernel
theorem dL_law_284 : decode cL_law 284 = .ok (.if_icmp .eq 439, 3) := by decide +kernel
theorem dL_law_287 : decode cL_law 287 = .ok (.iconst 0, 1) := by decide +kernel
theorem dL_law_288 : decode cL_law 288 = .ok (.ireturn, 1) := by decide +kernel
theorem dL_law_289 : decode cL_law 289 = .ok (.aload_n 1, 1) := by decide +kernel
theorem dL_law_290 : decode cL_law 290 = .ok (.invokevirtual 44, 3) := by decide +kernel
theorem dL_law_293 : decode cL_law 293 = .ok (.aload_n 2, 1) := by decide +kernel
theorem dL_law_294 : decode cL_law 294 = .ok (.invokevirtual 47, 3) := by decide +kernel
theorem dL_law_297 : decode cL_law 297 = .ok (.if_icmp .eq 426, 3) := by decide +kernel
theorem dL_law_300 : decode cL_law 300 = .ok (.iconst 0, 1) := by decide +kernel
theorem dL_law_301 : decode cL_law 301 = .ok (.ireturn, 1) := by decide +kernel
theorem dL_law_302 : decode cL_law 302 = .ok (.aload_n 1, 1) := by decide +kernel
theorem dL_law_303 : decode cL_law 303 = .ok (.aload_n 0, 1) := by decide +kernel
theorem dL_law_304 : decode cL_law 304 = .ok (.iload_n 3, 1) := by decide +kernel
theorem dL_law_305 : decode cL_law 305 = .ok (.iconst 1, 1) := by decide +kernel
theorem dL_law_306 : decode cL_law 306 = .ok (.iadd, 1) := by decide +kernel
theorem dL_law_307 : decode cL_law 307 = .ok (.iaload, 1) := by decide +kernel
theorem dL_law_308 : decode cL_law 308 = .ok (.invokevirtual 48, 3) := by decide +kernel
theorem dL_law_311 : decode cL_law 311 = .ok (.aload_n 2, 1) := by decide +kernel
theorem dL_law_312 : decode cL_law 312 = .ok (.aload_n 0, 1) := by decide +kernel
theorem dL_law_313 : decode cL_law 313 = .ok (.iload_n 3, 1) := by decide +kernel
theorem dL_law_314 : decode cL_law 314 = .ok (.iconst 1, 1) := by decide +kernel
theorem dL_law_315 : decode cL_law 315 = .ok (.iadd, 1) := by decide +kernel
theorem dL_law_316 : decode cL_law 316 = .ok (.iaload, 1) := by decide +kernel
theorem dL_law_317 : decode cL_law 317 = .ok (.invokevirtual 51, 3) := by decide +kernel
theorem dL_law_320 : decode cL_law 320 = .ok (.if_icmp .eq 403, 3) := by decide +kernel
theorem dL_law_323 : decode cL_law 323 = .ok (.iconst 0, 1) := by decide +kernel
theorem dL_law_324 : decode cL_law 324 = .ok (.ireturn, 1) := by decide +kernel
theorem dL_law_325 : decode cL_law 325 = .ok (.aload_n 1, 1) := by decide +kernel
theorem dL_law_326 : decode cL_law 326 = .ok (.invokevirtual 52, 3) := by decide +kernel
theorem dL_law_329 : decode cL_law 329 = .ok (.aload_n 2, 1) := by decide +kernel
theorem dL_law_330 : decode cL_law 330 = .ok (.invokevirtual 55, 3) := by decide +kernel
theorem dL_law_333 : decode cL_law 333 = .ok (.if_icmp .eq 390, 3) := by decide +kernel
theorem dL_law_336 : decode cL_law 336 = .ok (.iconst 0, 1) := by decide +kernel
theorem dL_law_337 : decode cL_law 337 = .ok (.ireturn, 1) := by decide +kernel
theorem dL_law_338 : decode cL_law 338 = .ok (.aload_n 1, 1) := by decide +kernel
theorem dL_law_339 : decode cL_law 339 = .ok (.aload_n 0, 1) := by decide +kernel
theorem dL_law_340 : decode cL_law 340 = .ok (.iload_n 3, 1) := by decide +kernel
theorem dL_law_341 : decode cL_law 341 = .ok (.iconst 1, 1) := by decide +kernel
theorem dL_law_342 : decode cL_law 342 = .ok (.iadd, 1) := by decide +kernel
theorem dL_law_343 : decode cL_law 343 = .ok (.iaload, 1) := by decide +kernel
theorem dL_law_344 : decode cL_law 344 = .ok (.aload_n 0, 1) := by decide +kernel
theorem dL_law_345 : decode cL_law 345 = .ok (.iload_n 3, 1) := by decide +kernel
theorem dL_law_346 : decode cL_law 346 = .ok (.iconst 2, 1) := by decide +kernel
theorem dL_law_347 : decode cL_law 347 = .ok (.iadd, 1) := by decide +kernel
theorem dL_law_348 : decode cL_law 348 = .ok (.iaload, 1) := by decide +kernel
theorem dL_law_349 : decode cL_law 349 = .ok (.invokevirtual 56, 3) := by decide +kernel
theorem dL_law_352 : decode cL_law 352 = .ok (.aload_n 2, 1) := by decide +kernel
theorem dL_law_353 : decode cL_law 353 = .ok (.aload_n 0, 1) := by decide +kernel
theorem dL_law_354 : decode cL_law 354 = .ok (.iload_n 3, 1) := by decide +kernel
theorem dL_law_355 : decode cL_law 355 = .ok (.iconst 1, 1) := by decide +kernel
theorem dL_law_356 : decode cL_law 356 = .ok (.iadd, 1) := by decide +kernel
theorem dL_law_357 : decode cL_law 357 = .ok (.iaload, 1) := by decide +kernel
theorem dL_law_358 : decode cL_law 358 = .ok (.aload_n 0, 1) := by decide +kernel
theorem dL_law_359 : decode cL_law 359 = .ok (.iload_n 3, 1) := by decide +kernel
theorem dL_law_360 : decode cL_law 360 = .ok (.iconst 2, 1) := by decide +kernel
theorem dL_law_361 : decode cL_law 361 = .ok (.iadd, 1) := by decide +kernel
theorem dL_law_362 : decode cL_law 362 = .ok (.iaload, 1) := by decide +kernel
theorem dL_law_363 : decode cL_law 363 = .ok (.invokevirtual 59, 3) := by decide +kernel
theorem dL_law_366 : decode cL_law 366 = .ok (.if_icmp .eq 357, 3) := by decide +kernel
theorem dL_law_369 : decode cL_law 369 = .ok (.iconst 0, 1) := by decide +kernel
theorem dL_law_370 : decode cL_law 370 = .ok (.ireturn, 1) := by decide +kernel
theorem dL_law_371 : decode cL_law 371 = .ok (.aload_n 1, 1) := by decide +kernel
theorem dL_law_372 : decode cL_law 372 = .ok (.aload_n 0, 1) := by decide +kernel
theorem dL_law_373 : decode cL_law 373 = .ok (.iload_n 3, 1) := by decide +kernel
theorem dL_law_374 : decode cL_law 374 = .ok (.iconst 1, 1) := by decide +kernel
theorem dL_law_375 : decode cL_law 375 = .ok (.iadd, 1) := by decide +kernel
theorem dL_law_376 : decode cL_law 376 = .ok (.iaload, 1) := by decide +kernel
theorem dL_law_377 : decode cL_law 377 = .ok (.invokevirtual 60, 3) := by decide +kernel
theorem dL_law_380 : decode cL_law 380 = .ok (.aload_n 2, 1) := by decide +kernel
theorem dL_law_381 : decode cL_law 381 = .ok (.aload_n 0, 1) := by decide +kernel
theorem dL_law_382 : decode cL_law 382 = .ok (.iload_n 3, 1) := by decide +kernel
theorem dL_law_383 : decode cL_law 383 = .ok (.iconst 1, 1) := by decide +kernel
theorem dL_law_384 : decode cL_law 384 = .ok (.iadd, 1) := by decide +kernel
theorem dL_law_385 : decode cL_law 385 = .ok (.iaload, 1) := by decide +kernel
theorem dL_law_386 : decode cL_law 386 = .ok (.invokevirtual 63, 3) := by decide +kernel
theorem dL_law_389 : decode cL_law 389 = .ok (.if_icmp .eq 334, 3) := by decide +kernel
theorem dL_law_392 : decode cL_law 392 = .ok (.iconst 0, 1) := by decide +kernel
theorem dL_law_393 : decode cL_law 393 = .ok (.ireturn, 1) := by decide +kernel
theorem dL_law_394 : decode cL_law 394 = .ok (.aload_n 1, 1) := by decide +kernel
theorem dL_law_395 : decode cL_law 395 = .ok (.invokevirtual 64, 3) := by decide +kernel
theorem dL_law_398 : decode cL_law 398 = .ok (.aload_n 2, 1) := by decide +kernel
theorem dL_law_399 : decode cL_law 399 = .ok (.invokevirtual 67, 3) := by decide +kernel
theorem dL_law_402 : decode cL_law 402 = .ok (.if_icmp .eq 321, 3) := by decide +kernel
theorem dL_law_405 : decode cL_law 405 = .ok (.iconst 0, 1) := by decide +kernel
theorem dL_law_406 : decode cL_law 406 = .ok (.ireturn, 1) := by decide +kernel
theorem dL_law_407 : decode cL_law 407 = .ok (.aload_n 1, 1) := by decide +kernel
theorem dL_law_408 : decode cL_law 408 = .ok (.aload_n 0, 1) := by decide +kernel
theorem dL_law_409 : decode cL_law 409 = .ok (.iload_n 3, 1) := by decide +kernel
theorem dL_law_410 : decode cL_law 410 = .ok (.iconst 1, 1) := by decide +kernel
theorem dL_law_411 : decode cL_law 411 = .ok (.iadd, 1) := by decide +kernel
theorem dL_law_412 : decode cL_law 412 = .ok (.iaload, 1) := by decide +kernel
theorem dL_law_413 : decode cL_law 413 = .ok (.invokevirtual 68, 3) := by decide +kernel
theorem dL_law_416 : decode cL_law 416 = .ok (.aload_n 2, 1) := by decide +kernel
theorem dL_law_417 : decode cL_law 417 = .ok (.aload_n 0, 1) := by decide +kernel
theorem dL_law_418 : decode cL_law 418 = .ok (.iload_n 3, 1) := by decide +kernel
theorem dL_law_419 : decode cL_law 419 = .ok (.iconst 1, 1) := by decide +kernel
theorem dL_law_420 : decode cL_law 420 = .ok (.iadd, 1) := by decide +kernel
theorem dL_law_421 : decode cL_law 421 = .ok (.iaload, 1) := by decide +kernel
theorem dL_law_422 : decode cL_law 422 = .ok (.invokevirtual 71, 3) := by decide +kernel
theorem dL_law_425 : decode cL_law 425 = .ok (.if_icmp .eq 298, 3) := by decide +kernel
theorem dL_law_428 : decode cL_law 428 = .ok (.iconst 0, 1) := by decide +kernel
theorem dL_law_429 : decode cL_law 429 = .ok (.ireturn, 1) := by decide +kernel
theorem dL_law_430 : decode cL_law 430 = .ok (.aload_n 1, 1) := by decide +kernel
theorem dL_law_431 : decode cL_law 431 = .ok (.aload_n 0, 1) := by decide +kernel
theorem dL_law_432 : decode cL_law 432 = .ok (.iload_n 3, 1) := by decide +kernel
theorem dL_law_433 : decode cL_law 433 = .ok (.iconst 1, 1) := by decide +kernel
theorem dL_law_434 : decode cL_law 434 = .ok (.iadd, 1) := by decide +kernel
theorem dL_law_435 : decode cL_law 435 = .ok (.iaload, 1) := by decide +kernel
theorem dL_law_436 : decode cL_law 436 = .ok (.invokevirtual 72, 3) := by decide +kernel
theorem dL_law_439 : decode cL_law 439 = .ok (.aload_n 2, 1) := by decide +kernel
theorem dL_law_440 : decode cL_law 440 = .ok (.aload_n 0, 1) := by decide +kernel
theorem dL_law_441 : decode cL_law 441 = .ok (.iload_n 3, 1) := by decide +kernel
theorem dL_law_442 : decode cL_law 442 = .ok (.iconst 1, 1) := by decide +kernel
theorem dL_law_443 : decode cL_law 443 = .ok (.iadd, 1) := by decide +kernel
theorem dL_law_444 : decode cL_law 444 = .ok (.iaload, 1) := by decide +kernel
theorem dL_law_445 : decode cL_law 445 = .ok (.invokevirtual 75, 3) := by decide +kernel
theorem dL_law_448 : decode cL_law 448 = .ok (.if_icmp .eq 275, 3) := by decide +kernel
theorem dL_law_451 : decode cL_law 451 = .ok (.iconst 0, 1) := by decide +kernel
theorem dL_law_452 : decode cL_law 452 = .ok (.ireturn, 1) := by decide +kernel
theorem dL_law_453 : decode cL_law 453 = .ok (.aload_n 1, 1) := by decide +kernel
theorem dL_law_454 : decode cL_law 454 = .ok (.invokevirtual 76, 3) := by decide +kernel
theorem dL_law_457 : decode cL_law 457 = .ok (.aload_n 2, 1) := by decide +kernel
theorem dL_law_458 : decode cL_law 458 = .ok (.invokevirtual 79, 3) := by decide +kernel
theorem dL_law_461 : decode cL_law 461 = .ok (.if_icmp .eq 262, 3) := by decide +kernel
theorem dL_law_464 : decode cL_law 464 = .ok (.iconst 0, 1) := by decide +kernel
theorem dL_law_465 : decode cL_law 465 = .ok (.ireturn, 1) := by decide +kernel
theorem dL_law_466 : decode cL_law 466 = .ok (.aload_n 1, 1) := by decide +kernel
theorem dL_law_467 : decode cL_law 467 = .ok (.aload_n 0, 1) := by decide +kernel
theorem dL_law_468 : decode cL_law 468 = .ok (.iload_n 3, 1) := by decide +kernel
theorem dL_law_469 : decode cL_law 469 = .ok (.iconst 1, 1) := by decide +kernel
theorem dL_law_470 : decode cL_law 470 = .ok (.iadd, 1) := by decide +kernel
theorem dL_law_471 : decode cL_law 471 = .ok (.iaload, 1) := by decide +kernel
theorem dL_law_472 : decode cL_law 472 = .ok (.aload_n 0, 1) := by decide +kernel
theorem dL_law_473 : decode cL_law 473 = .ok (.iload_n 3, 1) := by decide +kernel
theorem dL_law_474 : decode cL_law 474 = .ok (.iconst 2, 1) := by decide +kernel
theorem dL_law_475 : decode cL_law 475 = .ok (.iadd, 1) := by decide +kernel
theorem dL_law_476 : decode cL_law 476 = .ok (.iaload, 1) := by decide +kernel
theorem dL_law_477 : decode cL_law 477 = .ok (.aload_n 0, 1) := by decide +kernel
theorem dL_law_478 : decode cL_law 478 = .ok (.iload_n 3, 1) := by decide +kernel
theorem dL_law_479 : decode cL_law 479 = .ok (.iconst 3, 1) := by decide +kernel
theorem dL_law_480 : decode cL_law 480 = .ok (.iadd, 1) := by decide +kernel
theorem dL_law_481 : decode cL_law 481 = .ok (.iaload, 1) := by decide +kernel
theorem dL_law_482 : decode cL_law 482 = .ok (.invokevirtual 80, 3) := by decide +kernel
theorem dL_law_485 : decode cL_law 485 = .ok (.aload_n 2, 1) := by decide +kernel
theorem dL_law_486 : decode cL_law 486 = .ok (.aload_n 0, 1) := by decide +kernel
theorem dL_law_487 : decode cL_law 487 = .ok (.iload_n 3, 1) := by decide +kernel
theorem dL_law_488 : decode cL_law 488 = .ok (.iconst 1, 1) := by decide +kernel
theorem dL_law_489 : decode cL_law 489 = .ok (.iadd, 1) := by decide +kernel
theorem dL_law_490 : decode cL_law 490 = .ok (.iaload, 1) := by decide +kernel
theorem dL_law_491 : decode cL_law 491 = .ok (.aload_n 0, 1) := by decide +kernel
theorem dL_law_492 : decode cL_law 492 = .ok (.iload_n 3, 1) := by decide +kernel
theorem dL_law_493 : decode cL_law 493 = .ok (.iconst 2, 1) := by decide +kernel
theorem dL_law_494 : decode cL_law 494 = .ok (.iadd, 1) := by decide +kernel
theorem dL_law_495 : decode cL_law 495 = .ok (.iaload, 1) := by decide +kernel
theorem dL_law_496 : decode cL_law 496 = .ok (.aload_n 0, 1) := by decide +kernel
theorem dL_law_497 : decode cL_law 497 = .ok (.iload_n 3, 1) := by decide +kernel
theorem dL_law_498 : decode cL_law 498 = .ok (.iconst 3, 1) := by decide +kernel
theorem dL_law_499 : decode cL_law 499 = .ok (.iadd, 1) := by decide +kernel
theorem dL_law_500 : decode cL_law 500 = .ok (.iaload, 1) := by decide +kernel
theorem dL_law_501 : decode cL_law 501 = .ok (.invokevirtual 84, 3) := by decide +kernel
theorem dL_law_504 : decode cL_law 504 = .ok (.if_icmp .eq 219, 3) := by decide +kernel
theorem dL_law_507 : decode cL_law 507 = .ok (.iconst 0, 1) := by decide +kernel
theorem dL_law_508 : decode cL_law 508 = .ok (.ireturn, 1) := by decide +kernel
theorem dL_law_509 : decode cL_law 509 = .ok (.aload_n 1, 1) := by decide +kernel
theorem dL_law_510 : decode cL_law 510 = .ok (.invokevirtual 85, 3) := by decide +kernel
theorem dL_law_513 : decode cL_law 513 = .ok (.aload_n 2, 1) := by decide +kernel
theorem dL_law_514 : decode cL_law 514 = .ok (.invokevirtual 88, 3) := by decide +kernel
theorem dL_law_517 : decode cL_law 517 = .ok (.if_icmp .eq 206, 3) := by decide +kernel
theorem dL_law_520 : decode cL_law 520 = .ok (.iconst 0, 1) := by decide +kernel
theorem dL_law_521 : decode cL_law 521 = .ok (.ireturn, 1) := by decide +kernel
theorem dL_law_522 : decode cL_law 522 = .ok (.aload_n 1, 1) := by decide +kernel
theorem dL_law_523 : decode cL_law 523 = .ok (.aload_n 0, 1) := by decide +kernel
theorem dL_law_524 : decode cL_law 524 = .ok (.iload_n 3, 1) := by decide +kernel
theorem dL_law_525 : decode cL_law 525 = .ok (.iconst 1, 1) := by decide +kernel
theorem dL_law_526 : decode cL_law 526 = .ok (.iadd, 1) := by decide +kernel
theorem dL_law_527 : decode cL_law 527 = .ok (.iaload, 1) := by decide +kernel
theorem dL_law_528 : decode cL_law 528 = .ok (.invokevirtual 89, 3) := by decide +kernel
theorem dL_law_531 : decode cL_law 531 = .ok (.aload_n 2, 1) := by decide +kernel
theorem dL_law_532 : decode cL_law 532 = .ok (.aload_n 0, 1) := by decide +kernel
theorem dL_law_533 : decode cL_law 533 = .ok (.iload_n 3, 1) := by decide +kernel
theorem dL_law_534 : decode cL_law 534 = .ok (.iconst 1, 1) := by decide +kernel
theorem dL_law_535 : decode cL_law 535 = .ok (.iadd, 1) := by decide +kernel
theorem dL_law_536 : decode cL_law 536 = .ok (.iaload, 1) := by decide +kernel
theorem dL_law_537 : decode cL_law 537 = .ok (.invokevirtual 92, 3) := by decide +kernel
theorem dL_law_540 : decode cL_law 540 = .ok (.if_icmp .eq 183, 3) := by decide +kernel
theorem dL_law_543 : decode cL_law 543 = .ok (.iconst 0, 1) := by decide +kernel
theorem dL_law_544 : decode cL_law 544 = .ok (.ireturn, 1) := by decide +kernel
theorem dL_law_545 : decode cL_law 545 = .ok (.aload_n 1, 1) := by decide +kernel
theorem dL_law_546 : decode cL_law 546 = .ok (.aload_n 0, 1) := by decide +kernel
theorem dL_law_547 : decode cL_law 547 = .ok (.iload_n 3, 1) := by decide +kernel
theorem dL_law_548 : decode cL_law 548 = .ok (.iconst 1, 1) := by decide +kernel
theorem dL_law_549 : decode cL_law 549 = .ok (.iadd, 1) := by decide +kernel
theorem dL_law_550 : decode cL_law 550 = .ok (.iaload, 1) := by decide +kernel
theorem dL_law_551 : decode cL_law 551 = .ok (.aload_n 0, 1) := by decide +kernel
theorem dL_law_552 : decode cL_law 552 = .ok (.iload_n 3, 1) := by decide +kernel
theorem dL_law_553 : decode cL_law 553 = .ok (.iconst 2, 1) := by decide +kernel
theorem dL_law_554 : decode cL_law 554 = .ok (.iadd, 1) := by decide +kernel
theorem dL_law_555 : decode cL_law 555 = .ok (.iaload, 1) := by decide +kernel
theorem dL_law_556 : decode cL_law 556 = .ok (.invokevirtual 93, 3) := by decide +kernel
theorem dL_law_559 : decode cL_law 559 = .ok (.aload_n 2, 1) := by decide +kernel
theorem dL_law_560 : decode cL_law 560 = .ok (.aload_n 0, 1) := by decide +kernel
theorem dL_law_561 : decode cL_law 561 = .ok (.iload_n 3, 1) := by decide +kernel
theorem dL_law_562 : decode cL_law 562 = .ok (.iconst 1, 1) := by decide +kernel
theorem dL_law_563 : decode cL_law 563 = .ok (.iadd, 1) := by decide +kernel
theorem dL_law_564 : decode cL_law 564 = .ok (.iaload, 1) := by decide +kernel
theorem dL_law_565 : decode cL_law 565 = .ok (.aload_n 0, 1) := by decide +kernel
theorem dL_law_566 : decode cL_law 566 = .ok (.iload_n 3, 1) := by decide +kernel
theorem dL_law_567 : decode cL_law 567 = .ok (.iconst 2, 1) := by decide +kernel
theorem dL_law_568 : decode cL_law 568 = .ok (.iadd, 1) := by decide +kernel
theorem dL_law_569 : decode cL_law 569 = .ok (.iaload, 1) := by decide +kernel
theorem dL_law_570 : decode cL_law 570 = .ok (.invokevirtual 96, 3) := by decide +kernel
theorem dL_law_573 : decode cL_law 573 = .ok (.if_icmp .eq 150, 3) := by decide +kernel
theorem dL_law_576 : decode cL_law 576 = .ok (.iconst 0, 1) := by decide +kernel
theorem dL_law_577 : decode cL_law 577 = .ok (.ireturn, 1) := by decide +kernel
theorem dL_law_578 : decode cL_law 578 = .ok (.aload_n 1, 1) := by decide +kernel
theorem dL_law_579 : decode cL_law 579 = .ok (.aload_n 0, 1) := by decide +kernel
theorem dL_law_580 : decode cL_law 580 = .ok (.iload_n 3, 1) := by decide +kernel
theorem dL_law_581 : decode cL_law 581 = .ok (.iconst 1, 1) := by decide +kernel
theorem dL_law_582 : decode cL_law 582 = .ok (.iadd, 1) := by decide +kernel
theorem dL_law_583 : decode cL_law 583 = .ok (.iaload, 1) := by decide +kernel
theorem dL_law_584 : decode cL_law 584 = .ok (.aload_n 0, 1) := by decide +kernel
theorem dL_law_585 : decode cL_law 585 = .ok (.iload_n 3, 1) := by decide +kernel
theorem dL_law_586 : decode cL_law 586 = .ok (.iconst 2, 1) := by decide +kernel
theorem dL_law_587 : decode cL_law 587 = .ok (.iadd, 1) := by decide +kernel
theorem dL_law_588 : decode cL_law 588 = .ok (.iaload, 1) := by decide +kernel
theorem dL_law_589 : decode cL_law 589 = .ok (.aload_n 0, 1) := by decide +kernel
theorem dL_law_590 : decode cL_law 590 = .ok (.iload_n 3, 1) := by decide +kernel
theorem dL_law_591 : decode cL_law 591 = .ok (.iconst 3, 1) := by decide +kernel
theorem dL_law_592 : decode cL_law 592 = .ok (.iadd, 1) := by decide +kernel
theorem dL_law_593 : decode cL_law 593 = .ok (.iaload, 1) := by decide +kernel
theorem dL_law_594 : decode cL_law 594 = .ok (.aload_n 0, 1) := by decide +kernel
theorem dL_law_595 : decode cL_law 595 = .ok (.iload_n 3, 1) := by decide +kernel
theorem dL_law_596 : decode cL_law 596 = .ok (.iconst 4, 1) := by decide +kernel
theorem dL_law_597 : decode cL_law 597 = .ok (.iadd, 1) := by decide +kernel
theorem dL_law_598 : decode cL_law 598 = .ok (.iaload, 1) := by decide +kernel
theorem dL_law_599 : decode cL_law 599 = .ok (.invokevirtual 97, 3) := by decide +kernel
theorem dL_law_602 : decode cL_law 602 = .ok (.aload_n 2, 1) := by decide +kernel
theorem dL_law_603 : decode cL_law 603 = .ok (.aload_n 0, 1) := by decide +kernel
theorem dL_law_604 : decode cL_law 604 = .ok (.iload_n 3, 1) := by decide +kernel
theorem dL_law_605 : decode cL_law 605 = .ok (.iconst 1, 1) := by decide +kernel
theorem dL_law_606 : decode cL_law 606 = .ok (.iadd, 1) := by decide +kernel
theorem dL_law_607 : decode cL_law 607 = .ok (.iaload, 1) := by decide +kernel
theorem dL_law_608 : decode cL_law 608 = .ok (.aload_n 0, 1) := by decide +kernel
theorem dL_law_609 : decode cL_law 609 = .ok (.iload_n 3, 1) := by decide +kernel
theorem dL_law_610 : decode cL_law 610 = .ok (.iconst 2, 1) := by decide +kernel
theorem dL_law_611 : decode cL_law 611 = .ok (.iadd, 1) := by decide +kernel
theorem dL_law_612 : decode cL_law 612 = .ok (.iaload, 1) := by decide +kernel
theorem dL_law_613 : decode cL_law 613 = .ok (.aload_n 0, 1) := by decide +kernel
theorem dL_law_614 : decode cL_law 614 = .ok (.iload_n 3, 1) := by decide +kernel
theorem dL_law_615 : decode cL_law 615 = .ok (.iconst 3, 1) := by decide +kernel
theorem dL_law_616 : decode cL_law 616 = .ok (.iadd, 1) := by decide +kernel
theorem dL_law_617 : decode cL_law 617 = .ok (.iaload, 1) := by decide +kernel
theorem dL_law_618 : decode cL_law 618 = .ok (.aload_n 0, 1) := by decide +kernel
theorem dL_law_619 : decode cL_law 619 = .ok (.iload_n 3, 1) := by decide +kernel
theorem dL_law_620 : decode cL_law 620 = .ok (.iconst 4, 1) := by decide +kernel
theorem dL_law_621 : decode cL_law 621 = .ok (.iadd, 1) := by decide +kernel
theorem dL_law_622 : decode cL_law 622 = .ok (.iaload, 1) := by decide +kernel
theorem dL_law_623 : decode cL_law 623 = .ok (.invokevirtual 101, 3) := by decide +kernel
theorem dL_law_626 : decode cL_law 626 = .ok (.if_icmp .eq 97, 3) := by decide +kernel
theorem dL_law_629 : decode cL_law 629 = .ok (.iconst 0, 1) := by decide +kernel
theorem dL_law_630 : decode cL_law 630 = .ok (.ireturn, 1) := by decide +kernel
theorem dL_law_631 : decode cL_law 631 = .ok (.aload_n 1, 1) := by decide +kernel
theorem dL_law_632 : decode cL_law 632 = .ok (.aload_n 0, 1) := by decide +kernel
theorem dL_law_633 : decode cL_law 633 = .ok (.iload_n 3, 1) := by decide +kernel
theorem dL_law_634 : decode cL_law 634 = .ok (.iconst 1, 1) := by decide +kernel
theorem dL_law_635 : decode cL_law 635 = .ok (.iadd, 1) := by decide +kernel
theorem dL_law_636 : decode cL_law 636 = .ok (.iaload, 1) := by decide +kernel
theorem dL_law_637 : decode cL_law 637 = .ok (.aload_n 0, 1) := by decide +kernel
theorem dL_law_638 : decode cL_law 638 = .ok (.iload_n 3, 1) := by decide +kernel
theorem dL_law_639 : decode cL_law 639 = .ok (.iconst 2, 1) := by decide +kernel
theorem dL_law_640 : decode cL_law 640 = .ok (.iadd, 1) := by decide +kernel
theorem dL_law_641 : decode cL_law 641 = .ok (.iaload, 1) := by decide +kernel
theorem dL_law_642 : decode cL_law 642 = .ok (.aload_n 0, 1) := by decide +kernel
theorem dL_law_643 : decode cL_law 643 = .ok (.iload_n 3, 1) := by decide +kernel
theorem dL_law_644 : decode cL_law 644 = .ok (.iconst 3, 1) := by decide +kernel
theorem dL_law_645 : decode cL_law 645 = .ok (.iadd, 1) := by decide +kernel
theorem dL_law_646 : decode cL_law 646 = .ok (.iaload, 1) := by decide +kernel
theorem dL_law_647 : decode cL_law 647 = .ok (.invokevirtual 102, 3) := by decide +kernel
theorem dL_law_650 : decode cL_law 650 = .ok (.aload_n 2, 1) := by decide +kernel
theorem dL_law_651 : decode cL_law 651 = .ok (.aload_n 0, 1) := by decide +kernel
theorem dL_law_652 : decode cL_law 652 = .ok (.iload_n 3, 1) := by decide +kernel
theorem dL_law_653 : decode cL_law 653 = .ok (.iconst 1, 1) := by decide +kernel
theorem dL_law_654 : decode cL_law 654 = .ok (.iadd, 1) := by decide +kernel
theorem dL_law_655 : decode cL_law 655 = .ok (.iaload, 1) := by decide +kernel
theorem dL_law_656 : decode cL_law 656 = .ok (.aload_n 0, 1) := by decide +kernel
theorem dL_law_657 : decode cL_law 657 = .ok (.iload_n 3, 1) := by decide +kernel
theorem dL_law_658 : decode cL_law 658 = .ok (.iconst 2, 1) := by decide +kernel
theorem dL_law_659 : decode cL_law 659 = .ok (.iadd, 1) := by decide +kernel
theorem dL_law_660 : decode cL_law 660 = .ok (.iaload, 1) := by decide +kernel
theorem dL_law_661 : decode cL_law 661 = .ok (.aload_n 0, 1) := by decide +kernel
theorem dL_law_662 : decode cL_law 662 = .ok (.iload_n 3, 1) := by decide +kernel
theorem dL_law_663 : decode cL_law 663 = .ok (.iconst 3, 1) := by decide +kernel
theorem dL_law_664 : decode cL_law 664 = .ok (.iadd, 1) := by decide +kernel
theorem dL_law_665 : decode cL_law 665 = .ok (.iaload, 1) := by decide +kernel
theorem dL_law_666 : decode cL_law 666 = .ok (.invokevirtual 105, 3) := by decide +kernel
theorem dL_law_669 : decode cL_law 669 = .ok (.if_icmp .eq 54, 3) := by decide +kernel
theorem dL_law_672 : decode cL_law 672 = .ok (.iconst 0, 1) := by decide +kernel
theorem dL_law_673 : decode cL_law 673 = .ok (.ireturn, 1) := by decide +kernel
theorem dL_law_674 : decode cL_law 674 = .ok (.aload_n 1, 1) := by decide +kernel
theorem dL_law_675 : decode cL_law 675 = .ok (.invokevirtual 106, 3) := by decide +kernel
theorem dL_law_678 : decode cL_law 678 = .ok (.aload_n 2, 1) := by decide +kernel
theorem dL_law_679 : decode cL_law 679 = .ok (.invokevirtual 109, 3) := by decide +kernel
theorem dL_law_682 : decode cL_law 682 = .ok (.if_icmp .eq 41, 3) := by decide +kernel
theorem dL_law_685 : decode cL_law 685 = .ok (.iconst 0, 1) := by decide +kernel
theorem dL_law_686 : decode cL_law 686 = .ok (.ireturn, 1) := by decide +kernel
theorem dL_law_687 : decode cL_law 687 = .ok (.aload_n 1, 1) := by decide +kernel
theorem dL_law_688 : decode cL_law 688 = .ok (.invokevirtual 110, 3) := by decide +kernel
theorem dL_law_691 : decode cL_law 691 = .ok (.aload_n 2, 1) := by decide +kernel
theorem dL_law_692 : decode cL_law 692 = .ok (.invokevirtual 113, 3) := by decide +kernel
theorem dL_law_695 : decode cL_law 695 = .ok (.if_icmp .eq 28, 3) := by decide +kernel
theorem dL_law_698 : decode cL_law 698 = .ok (.iconst 0, 1) := by decide +kernel
theorem dL_law_699 : decode cL_law 699 = .ok (.ireturn, 1) := by decide +kernel
theorem dL_law_700 : decode cL_law 700 = .ok (.aload_n 1, 1) := by decide +kernel
theorem dL_law_701 : decode cL_law 701 = .ok (.aload_n 0, 1) := by decide +kernel
theorem dL_law_702 : decode cL_law 702 = .ok (.iload_n 3, 1) := by decide +kernel
theorem dL_law_703 : decode cL_law 703 = .ok (.iconst 1, 1) := by decide +kernel
theorem dL_law_704 : decode cL_law 704 = .ok (.iadd, 1) := by decide +kernel
theorem dL_law_705 : decode cL_law 705 = .ok (.iaload, 1) := by decide +kernel
theorem dL_law_706 : decode cL_law 706 = .ok (.invokevirtual 114, 3) := by decide +kernel
theorem dL_law_709 : decode cL_law 709 = .ok (.aload_n 2, 1) := by decide +kernel
theorem dL_law_710 : decode cL_law 710 = .ok (.aload_n 0, 1) := by decide +kernel
theorem dL_law_711 : decode cL_law 711 = .ok (.iload_n 3, 1) := by decide +kernel
theorem dL_law_712 : decode cL_law 712 = .ok (.iconst 1, 1) := by decide +kernel
theorem dL_law_713 : decode cL_law 713 = .ok (.iadd, 1) := by decide +kernel
theorem dL_law_714 : decode cL_law 714 = .ok (.iaload, 1) := by decide +kernel
theorem dL_law_715 : decode cL_law 715 = .ok (.invokevirtual 117, 3) := by decide +kernel
theorem dL_law_718 : decode cL_law 718 = .ok (.if_icmp .eq 5, 3) := by decide +kernel
theorem dL_law_721 : decode cL_law 721 = .ok (.iconst 0, 1) := by decide +kernel
theorem dL_law_722 : decode cL_law 722 = .ok (.ireturn, 1) := by decide +kernel
theorem dL_law_723 : decode cL_law 723 = .ok (.iinc 3 5, 3) := by decide +kernel
theorem dL_law_726 : decode cL_law 726 = .ok (.goto (-708), 3) := by decide +kernel
theorem dL_law_729 : decode cL_law 729 = .ok (.iconst 1, 1) := by decide +kernel
theorem dL_law_730 : decode cL_law 730 = .ok (.ireturn, 1) := by decide +kernel
