theorem dX6_size_128 : decode cX6_size 128 = .ok (.ireturn, 1) := by decide +kernel
theorem dX6_size_129 : decode cX6_size 129 = .ok (.aload_n 0, 1) := by decide +kernel
theorem dX6_size_130 : decode cX6_size 130 = .ok (.getfield 33, 3) := by decide +kernel
theorem dX6_size_133 : decode cX6_size 133 = .ok (.getfield 116, 3) := by decide +kernel
theorem dX6_size_136 : decode cX6_size 136 = .ok (.ireturn, 1) := by decide +kernel
theorem dX6_size_137 : decode cX6_size 137 = .ok (.new 56, 3) := by decide +kernel
theorem dX6_size_140 : decode cX6_size 140 = .ok (.dup, 1) := by decide +kernel
theorem dX6_size_141 : decode cX6_size 141 = .ok (.ldc 119, 2) := by decide +kernel
theorem dX6_size_143 : decode cX6_size 143 = .ok (.invokespecial 60, 3) := by decide +kernel
theorem dX6_size_146 : decode cX6_size 146 = .ok (.athrow, 1) := by decide +kernel
theorem dX6_playerToMove_0 : decode cX6_playerToMove 0 = .ok (.aload_n 0, 1) := by decide +kernel
theorem dX6_playerToMove_1 : decode cX6_playerToMove 1 = .ok (.getfield 12, 3) := by decide +kernel
theorem dX6_playerToMove_4 : decode cX6_playerToMove 4 = .ok (.getfield 85, 3) := by decide +kernel
theorem dX6_playerToMove_7 : decode cX6_playerToMove 7 = .ok (.getfield 106, 3) := by decide +kernel
theorem dX6_playerToMove_10 : decode cX6_playerToMove 10 = .ok (.iconst 2, 1) := by decide +kernel
theorem dX6_playerToMove_11 : decode cX6_playerToMove 11 = .ok (.irem, 1) := by decide +kernel
theorem dX6_playerToMove_12 : decode cX6_playerToMove 12 = .ok (.ireturn, 1) := by decide +kernel
theorem dX6_winner_0 : decode cX6_winner 0 = .ok (.aload_n 0, 1) := by decide +kernel
theorem dX6_winner_1 : decode cX6_winner 1 = .ok (.invokevirtual 121, 3) := by decide +kernel
theorem dX6_winner_4 : decode cX6_winner 4 = .ok (.ifCond .le 5, 3) := by decide +kernel
theorem dX6_winner_7 : decode cX6_winner 7 = .ok (.iconst (-1), 1) := by decide +kernel
theorem dX6_winner_8 : decode cX6_winner 8 = .ok (.ireturn, 1) := by decide +kernel
theorem dX6_winner_9 : decode cX6_winner 9 = .ok (.aload_n 0, 1) := by decide +kernel
theorem dX6_winner_10 : decode cX6_winner 10 = .ok (.getfield 12, 3) := by decide +kernel
theorem dX6_winner_13 : decode cX6_winner 13 = .ok (.getfield 85, 3) := by decide +kernel
theorem dX6_winner_16 : decode cX6_winner 16 = .ok (.getfield 102, 3) := by decide +kernel
theorem dX6_winner_19 : decode cX6_winner 19 = .ok (.ifCond .eq 10, 3) := by decide +kernel
theorem dX6_winner_22 : decode cX6_winner 22 = .ok (.aload_n 0, 1) := by decide +kernel
theorem dX6_winner_23 : decode cX6_winner 23 = .ok (.invokevirtual 109, 3) := by decide +kernel
theorem dX6_winner_26 : decode cX6_winner 26 = .ok (.goto 9, 3) := by decide +kernel
theorem dX6_winner_29 : decode cX6_winner 29 = .ok (.iconst 1, 1) := by decide +kernel
theorem dX6_winner_30 : decode cX6_winner 30 = .ok (.aload_n 0, 1) := by decide +kernel
theorem dX6_winner_31 : decode cX6_winner 31 = .ok (.invokevirtual 109, 3) := by decide +kernel
theorem dX6_winner_34 : decode cX6_winner 34 = .ok (.isub, 1) := by decide +kernel
theorem dX6_winner_35 : decode cX6_winner 35 = .ok (.ireturn, 1) := by decide +kernel
theorem dX6_requireRule_0 : decode cX6_requireRule 0 = .ok (.iload_n 1, 1) := by decide +kernel
theorem dX6_requireRule_1 : decode cX6_requireRule 1 = .ok (.ifCond .lt 14, 3) := by decide +kernel
theorem dX6_requireRule_4 : decode cX6_requireRule 4 = .ok (.iload_n 1, 1) := by decide +kernel
theorem dX6_requireRule_5 : decode cX6_requireRule 5 = .ok (.aload_n 0, 1) := by decide +kernel
theorem dX6_requireRule_6 : decode cX6_requireRule 6 = .ok (.getfield 12, 3) := by decide +kernel
theorem dX6_requireRule_9 : decode cX6_requireRule 9 = .ok (.getfield 82, 3) := by decide +kernel
theorem dX6_requireRule_12 : decode cX6_requireRule 12 = .ok (.if_icmp .lt 13, 3) := by decide +kernel
theorem dX6_requireRule_15 : decode cX6_requireRule 15 = .ok (.new 161, 3) := by decide +kernel
theorem dX6_requireRule_18 : decode cX6_requireRule 18 = .ok (.dup, 1) := by decide +kernel
theorem dX6_requireRule_19 : decode cX6_requireRule 19 = .ok (.ldc 163, 2) := by decide +kernel
theorem dX6_requireRule_21 : decode cX6_requireRule 21 = .ok (.invokespecial 165, 3) := by decide +kernel
theorem dX6_requireRule_24 : decode cX6_requireRule 24 = .ok (.athrow, 1) := by decide +kernel
theorem dX6_requireRule_25 : decode cX6_requireRule 25 = .ok (.aload_n 0, 1) := by decide +kernel
theorem dX6_requireRule_26 : decode cX6_requireRule 26 = .ok (.getfield 12, 3) := by decide +kernel
theorem dX6_requireRule_29 : decode cX6_requireRule 29 = .ok (.iload_n 1, 1) := by decide +kernel
theorem dX6_requireRule_30 : decode cX6_requireRule 30 = .ok (.invokevirtual 166, 3) := by decide +kernel
theorem dX6_requireRule_33 : decode cX6_requireRule 33 = .ok (.areturn, 1) := by decide +kernel
theorem dX6_nimSum_0 : decode cX6_nimSum 0 = .ok (.iconst 0, 1) := by decide +kernel
theorem dX6_nimSum_1 : decode cX6_nimSum 1 = .ok (.istore_n 1, 1) := by decide +kernel
theorem dX6_nimSum_2 : decode cX6_nimSum 2 = .ok (.iconst 0, 1) := by decide +kernel
theorem dX6_nimSum_3 : decode cX6_nimSum 3 = .ok (.istore_n 2, 1) := by decide +kernel
theorem dX6_nimSum_4 : decode cX6_nimSum 4 = .ok (.iload_n 2, 1) := by decide +kernel
theorem dX6_nimSum_5 : decode cX6_nimSum 5 = .ok (.aload_n 0, 1) := by decide +kernel
theorem dX6_nimSum_6 : decode cX6_nimSum 6 = .ok (.getfield 12, 3) := by decide +kernel
theorem dX6_nimSum_9 : decode cX6_nimSum 9 = .ok (.getfield 85, 3) := by decide +kernel
theorem dX6_nimSum_12 : decode cX6_nimSum 12 = .ok (.getfield 89, 3) := by decide +kernel
theorem dX6_nimSum_15 : decode cX6_nimSum 15 = .ok (.if_icmp .ge 28, 3) := by decide +kernel
theorem dX6_nimSum_18 : decode cX6_nimSum 18 = .ok (.iload_n 1, 1) := by decide +kernel
theorem dX6_nimSum_19 : decode cX6_nimSum 19 = .ok (.aload_n 0, 1) := by decide +kernel
theorem dX6_nimSum_20 : decode cX6_nimSum 20 = .ok (.getfield 12, 3) := by decide +kernel
theorem dX6_nimSum_23 : decode cX6_nimSum 23 = .ok (.iload_n 2, 1) := by decide +kernel
theorem dX6_nimSum_24 : decode cX6_nimSum 24 = .ok (.invokevirtual 183, 3) := by decide +kernel
theorem dX6_nimSum_27 : decode cX6_nimSum 27 = .ok (.aload_n 0, 1) := by decide +kernel
theorem dX6_nimSum_28 : decode cX6_nimSum 28 = .ok (.iload_n 2, 1) := by decide +kernel
theorem dX6_nimSum_29 : decode cX6_nimSum 29 = .ok (.invokevirtual 174, 3) := by decide +kernel
theorem dX6_nimSum_32 : decode cX6_nimSum 32 = .ok (.invokevirtual 143, 3) := by decide +kernel
theorem dX6_nimSum_35 : decode cX6_nimSum 35 = .ok (.ixor, 1) := by decide +kernel
theorem dX6_nimSum_36 : decode cX6_nimSum 36 = .ok (.istore_n 1, 1) := by decide +kernel
theorem dX6_nimSum_37 : decode cX6_nimSum 37 = .ok (.iinc 2 1, 3) := by decide +kernel
theorem dX6_nimSum_40 : decode cX6_nimSum 40 = .ok (.goto (-36), 3) := by decide +kernel
theorem dX6_nimSum_43 : decode cX6_nimSum 43 = .ok (.iload_n 1, 1) := by decide +kernel
theorem dX6_nimSum_44 : decode cX6_nimSum 44 = .ok (.ireturn, 1) := by decide +kernel
theorem dX6_positionValue_0 : decode cX6_positionValue 0 = .ok (.aload_n 0, 1) := by decide +kernel
theorem dX6_positionValue_1 : decode cX6_positionValue 1 = .ok (.invokevirtual 186, 3) := by decide +kernel
theorem dX6_positionValue_4 : decode cX6_positionValue 4 = .ok (.aload_n 0, 1) := by decide +kernel
theorem dX6_positionValue_5 : decode cX6_positionValue 5 = .ok (.getfield 26, 3) := by decide +kernel
theorem dX6_positionValue_8 : decode cX6_positionValue 8 = .ok (.aload_n 0, 1) := by decide +kernel
theorem dX6_positionValue_9 : decode cX6_positionValue 9 = .ok (.getfield 12, 3) := by decide +kernel
theorem dX6_positionValue_12 : decode cX6_positionValue 12 = .ok (.getfield 85, 3) := by decide +kernel
theorem dX6_positionValue_15 : decode cX6_positionValue 15 = .ok (.getfield 92, 3) := by decide +kernel
theorem dX6_positionValue_18 : decode cX6_positionValue 18 = .ok (.invokevirtual 189, 3) := by decide +kernel
theorem dX6_positionValue_21 : decode cX6_positionValue 21 = .ok (.ireturn, 1) := by decide +kernel
theorem dX6_isWon_0 : decode cX6_isWon 0 = .ok (.aload_n 0, 1) := by decide +kernel
theorem dX6_isWon_1 : decode cX6_isWon 1 = .ok (.invokevirtual 186, 3) := by decide +kernel
theorem dX6_isWon_4 : decode cX6_isWon 4 = .ok (.aload_n 0, 1) := by decide +kernel
theorem dX6_isWon_5 : decode cX6_isWon 5 = .ok (.getfield 26, 3) := by decide +kernel
theorem dX6_isWon_8 : decode cX6_isWon 8 = .ok (.aload_n 0, 1) := by decide +kernel
theorem dX6_isWon_9 : decode cX6_isWon 9 = .ok (.getfield 12, 3) := by decide +kernel
theorem dX6_isWon_12 : decode cX6_isWon 12 = .ok (.getfield 85, 3) := by decide +kernel
theorem dX6_isWon_15 : decode cX6_isWon 15 = .ok (.getfield 92, 3) := by decide +kernel
theorem dX6_isWon_18 : decode cX6_isWon 18 = .ok (.invokevirtual 192, 3) := by decide +kernel
theorem dX6_isWon_21 : decode cX6_isWon 21 = .ok (.ireturn, 1) := by decide +kernel
theorem dX6_length_0 : decode cX6_length 0 = .ok (.aload_n 0, 1) := by decide +kernel
theorem dX6_length_1 : decode cX6_length 1 = .ok (.invokevirtual 186, 3) := by decide +kernel
theorem dX6_length_4 : decode cX6_length 4 = .ok (.aload_n 0, 1) := by decide +kernel
theorem dX6_length_5 : decode cX6_length 5 = .ok (.getfield 26, 3) := by decide +kernel
theorem dX6_length_8 : decode cX6_length 8 = .ok (.aload_n 0, 1) := by decide +kernel
theorem dX6_length_9 : decode cX6_length 9 = .ok (.getfield 12, 3) := by decide +kernel
theorem dX6_length_12 : decode cX6_length 12 = .ok (.getfield 85, 3) := by decide +kernel
theorem dX6_length_15 : decode cX6_length 15 = .ok (.getfield 92, 3) := by decide +kernel
theorem dX6_length_18 : decode cX6_length 18 = .ok (.invokevirtual 195, 3) := by decide +kernel
theorem dX6_length_21 : decode cX6_length 21 = .ok (.ireturn, 1) := by decide +kernel
theorem dX6_moves_0 : decode cX6_moves 0 = .ok (.aload_n 0, 1) := by decide +kernel
theorem dX6_moves_1 : decode cX6_moves 1 = .ok (.invokevirtual 121, 3) := by decide +kernel
theorem dX6_moves_4 : decode cX6_moves 4 = .ok (.ireturn, 1) := by decide +kernel
theorem dX6_move_0 : decode cX6_move 0 = .ok (.iload_n 1, 1) := by decide +kernel
theorem dX6_move_1 : decode cX6_move 1 = .ok (.ifCond .lt 11, 3) := by decide +kernel
theorem dX6_move_4 : decode cX6_move 4 = .ok (.iload_n 1, 1) := by decide +kernel
theorem dX6_move_5 : decode cX6_move 5 = .ok (.aload_n 0, 1) := by decide +kernel
theorem dX6_move_6 : decode cX6_move 6 = .ok (.invokevirtual 121, 3) := by decide +kernel
theorem dX6_move_9 : decode cX6_move 9 = .ok (.if_icmp .lt 13, 3) := by decide +kernel
theorem dX6_move_12 : decode cX6_move 12 = .ok (.new 161, 3) := by decide +kernel
theorem dX6_move_15 : decode cX6_move 15 = .ok (.dup, 1) := by decide +kernel
theorem dX6_move_16 : decode cX6_move 16 = .ok (.ldc 198, 2) := by decide +kernel
theorem dX6_move_18 : decode cX6_move 18 = .ok (.invokespecial 165, 3) := by decide +kernel
theorem dX6_move_21 : decode cX6_move 21 = .ok (.athrow, 1) := by decide +kernel
theorem dX6_move_22 : decode cX6_move 22 = .ok (.iload_n 2, 1) := by decide +kernel
theorem dX6_move_23 : decode cX6_move 23 = .ok (.ifCond .lt 9, 3) := by decide +kernel
theorem dX6_move_26 : decode cX6_move 26 = .ok (.iload_n 2, 1) := by decide +kernel
theorem dX6_move_27 : decode cX6_move 27 = .ok (.bipush 6, 2) := by decide +kernel
theorem dX6_move_29 : decode cX6_move 29 = .ok (.if_icmp .le 13, 3) := by decide +kernel
theorem dX6_move_32 : decode cX6_move 32 = .ok (.new 56, 3) := by decide +kernel
theorem dX6_move_35 : decode cX6_move 35 = .ok (.dup, 1) := by decide +kernel
theorem dX6_move_36 : decode cX6_move 36 = .ok (.ldc 119, 2) := by decide +kernel
theorem dX6_move_38 : decode cX6_move 38 = .ok (.invokespecial 60, 3) := by decide +kernel
theorem dX6_move_41 : decode cX6_move 41 = .ok (.athrow, 1) := by decide +kernel
theorem dX6_move_42 : decode cX6_move 42 = .ok (.aload_n 0, 1) := by decide +kernel
theorem dX6_move_43 : decode cX6_move 43 = .ok (.getfield 26, 3) := by decide +kernel
theorem dX6_move_46 : decode cX6_move 46 = .ok (.iload_n 1, 1) := by decide +kernel
theorem dX6_move_47 : decode cX6_move 47 = .ok (.invokevirtual 200, 3) := by decide +kernel
theorem dX6_move_50 : decode cX6_move 50 = .ok (.istore_n 3, 1) := by decide +kernel
theorem dX6_move_51 : decode cX6_move 51 = .ok (.iload_n 2, 1) := by decide +kernel
theorem dX6_move_52 : decode cX6_move 52 = .ok (.iconst 3, 1) := by decide +kernel
theorem dX6_move_53 : decode cX6_move 53 = .ok (.if_icmp .gt 20, 3) := by decide +kernel
theorem dX6_move_56 : decode cX6_move 56 = .ok (.aload_n 0, 1) := by decide +kernel
theorem dX6_move_57 : decode cX6_move 57 = .ok (.getfield 12, 3) := by decide +kernel
theorem dX6_move_60 : decode cX6_move 60 = .ok (.getfield 85, 3) := by decide +kernel
theorem dX6_move_63 : decode cX6_move 63 = .ok (.getfield 92, 3) := by decide +kernel
theorem dX6_move_66 : decode cX6_move 66 = .ok (.iload_n 3, 1) := by decide +kernel
theorem dX6_move_67 : decode cX6_move 67 = .ok (.isub, 1) := by decide +kernel
theorem dX6_move_68 : decode cX6_move 68 = .ok (.iload_n 2, 1) := by decide +kernel
theorem dX6_move_69 : decode cX6_move 69 = .ok (.invokestatic 203, 3) := by decide +kernel
theorem dX6_move_72 : decode cX6_move 72 = .ok (.ireturn, 1) := by decide +kernel
theorem dX6_move_73 : decode cX6_move 73 = .ok (.aload_n 0, 1) := by decide +kernel
theorem dX6_move_74 : decode cX6_move 74 = .ok (.invokevirtual 186, 3) := by decide +kernel
theorem dX6_move_77 : decode cX6_move 77 = .ok (.iload_n 2, 1) := by decide +kernel
theorem dX6_move_78 : decode cX6_move 78 = .ok (.lookupswitch 52 #[(4, 26), (5, 35)], 26) := by decide +kernel
theorem dX6_move_104 : decode cX6_move 104 = .ok (.aload_n 0, 1) := by decide +kernel
theorem dX6_move_105 : decode cX6_move 105 = .ok (.getfield 26, 3) := by decide +kernel
theorem dX6_move_108 : decode cX6_move 108 = .ok (.iload_n 3, 1) := by decide +kernel
theorem dX6_move_109 : decode cX6_move 109 = .ok (.invokevirtual 189, 3) := by decide +kernel
theorem dX6_move_112 : decode cX6_move 112 = .ok (.ireturn, 1) := by decide +kernel
theorem dX6_move_113 : decode cX6_move 113 = .ok (.aload_n 0, 1) := by decide +kernel
theorem dX6_move_114 : decode cX6_move 114 = .ok (.getfield 26, 3) := by decide +kernel
theorem dX6_move_117 : decode cX6_move 117 = .ok (.iload_n 3, 1) := by decide +kernel
theorem dX6_move_118 : decode cX6_move 118 = .ok (.invokevirtual 192, 3) := by decide +kernel
theorem dX6_move_121 : decode cX6_move 121 = .ok (.ifCond .eq 7, 3) := by decide +kernel
theorem dX6_move_124 : decode cX6_move 124 = .ok (.iconst 0, 1) := by decide +kernel
theorem dX6_move_125 : decode cX6_move 125 = .ok (.goto 4, 3) := by decide +kernel
theorem dX6_move_128 : decode cX6_move 128 = .ok (.iconst 1, 1) := by decide +kernel
theorem dX6_move_129 : decode cX6_move 129 = .ok (.ireturn, 1) := by decide +kernel
theorem dX6_move_130 : decode cX6_move 130 = .ok (.aload_n 0, 1) := by decide +kernel
theorem dX6_move_131 : decode cX6_move 131 = .ok (.getfield 26, 3) := by decide +kernel
theorem dX6_move_134 : decode cX6_move 134 = .ok (.iload_n 3, 1) := by decide +kernel
theorem dX6_move_135 : decode cX6_move 135 = .ok (.invokevirtual 195, 3) := by decide +kernel
theorem dX6_move_138 : decode cX6_move 138 = .ok (.ireturn, 1) := by decide +kernel
theorem dX6_winning_0 : decode cX6_winning 0 = .ok (.aload_n 0, 1) := by decide +kernel
theorem dX6_winning_1 : decode cX6_winning 1 = .ok (.invokevirtual 186, 3) := by decide +kernel
theorem dX6_winning_4 : decode cX6_winning 4 = .ok (.aload_n 0, 1) := by decide +kernel
theorem dX6_winning_5 : decode cX6_winning 5 = .ok (.invokevirtual 121, 3) := by decide +kernel
theorem dX6_winning_8 : decode cX6_winning 8 = .ok (.istore_n 1, 1) := by decide +kernel
theorem dX6_winning_9 : decode cX6_winning 9 = .ok (.iconst 0, 1) := by decide +kernel
theorem dX6_winning_10 : decode cX6_winning 10 = .ok (.istore_n 2, 1) := by decide +kernel
theorem dX6_winning_11 : decode cX6_winning 11 = .ok (.iconst 0, 1) := by decide +kernel
theorem dX6_winning_12 : decode cX6_winning 12 = .ok (.istore_n 3, 1) := by decide +kernel
theorem dX6_winning_13 : decode cX6_winning 13 = .ok (.iload_n 3, 1) := by decide +kernel
theorem dX6_winning_14 : decode cX6_winning 14 = .ok (.iload_n 1, 1) := by decide +kernel
theorem dX6_winning_15 : decode cX6_winning 15 = .ok (.if_icmp .ge 30, 3) := by decide +kernel
theorem dX6_winning_18 : decode cX6_winning 18 = .ok (.aload_n 0, 1) := by decide +kernel
theorem dX6_winning_19 : decode cX6_winning 19 = .ok (.getfield 26, 3) := by decide +kernel
theorem dX6_winning_22 : decode cX6_winning 22 = .ok (.aload_n 0, 1) := by decide +kernel
theorem dX6_winning_23 : decode cX6_winning 23 = .ok (.getfield 26, 3) := by decide +kernel
theorem dX6_winning_26 : decode cX6_winning 26 = .ok (.iload_n 3, 1) := by decide +kernel
theorem dX6_winning_27 : decode cX6_winning 27 = .ok (.invokevirtual 200, 3) := by decide +kernel
theorem dX6_winning_30 : decode cX6_winning 30 = .ok (.invokevirtual 192, 3) := by decide +kernel
theorem dX6_winning_33 : decode cX6_winning 33 = .ok (.ifCond .ne 6, 3) := by decide +kernel
theorem dX6_winning_36 : decode cX6_winning 36 = .ok (.iinc 2 1, 3) := by decide +kernel
theorem dX6_winning_39 : decode cX6_winning 39 = .ok (.iinc 3 1, 3) := by decide +kernel
theorem dX6_winning_42 : decode cX6_winning 42 = .ok (.goto (-29), 3) := by decide +kernel
theorem dX6_winning_45 : decode cX6_winning 45 = .ok (.iload_n 2, 1) := by decide +kernel
theorem dX6_winning_46 : decode cX6_winning 46 = .ok (.ireturn, 1) := by decide +kernel
theorem dX6_best_0 : decode cX6_best 0 = .ok (.aload_n 0, 1) := by decide +kernel
theorem dX6_best_1 : decode cX6_best 1 = .ok (.invokevirtual 186, 3) := by decide +kernel
theorem dX6_best_4 : decode cX6_best 4 = .ok (.aload_n 0, 1) := by decide +kernel
theorem dX6_best_5 : decode cX6_best 5 = .ok (.invokevirtual 206, 3) := by decide +kernel
theorem dX6_best_8 : decode cX6_best 8 = .ok (.ireturn, 1) := by decide +kernel
theorem dX6_findBest_0 : decode cX6_findBest 0 = .ok (.aload_n 0, 1) := by decide +kernel
theorem dX6_findBest_1 : decode cX6_findBest 1 = .ok (.invokevirtual 121, 3) := by decide +kernel
theorem dX6_findBest_4 : decode cX6_findBest 4 = .ok (.istore_n 1, 1) := by decide +kernel
theorem dX6_findBest_5 : decode cX6_findBest 5 = .ok (.iconst (-1), 1) := by decide +kernel
theorem dX6_findBest_6 : decode cX6_findBest 6 = .ok (.istore_n 2, 1) := by decide +kernel
theorem dX6_findBest_7 : decode cX6_findBest 7 = .ok (.iconst 0, 1) := by decide +kernel
theorem dX6_findBest_8 : decode cX6_findBest 8 = .ok (.istore_n 3, 1) := by decide +kernel
theorem dX6_findBest_9 : decode cX6_findBest 9 = .ok (.iload_n 3, 1) := by decide +kernel
theorem dX6_findBest_10 : decode cX6_findBest 10 = .ok (.iload_n 1, 1) := by decide +kernel
theorem dX6_findBest_11 : decode cX6_findBest 11 = .ok (.if_icmp .ge 39, 3) := by decide +kernel
theorem dX6_findBest_14 : decode cX6_findBest 14 = .ok (.iload_n 2, 1) := by decide +kernel
theorem dX6_findBest_15 : decode cX6_findBest 15 = .ok (.iconst (-1), 1) := by decide +kernel
theorem dX6_findBest_16 : decode cX6_findBest 16 = .ok (.if_icmp .eq 26, 3) := by decide +kernel
theorem dX6_findBest_19 : decode cX6_findBest 19 = .ok (.aload_n 0, 1) := by decide +kernel
theorem dX6_findBest_20 : decode cX6_findBest 20 = .ok (.aload_n 0, 1) := by decide +kernel
theorem dX6_findBest_21 : decode cX6_findBest 21 = .ok (.getfield 26, 3) := by decide +kernel
theorem dX6_findBest_24 : decode cX6_findBest 24 = .ok (.iload_n 3, 1) := by decide +kernel
theorem dX6_findBest_25 : decode cX6_findBest 25 = .ok (.invokevirtual 200, 3) := by decide +kernel
theorem dX6_findBest_28 : decode cX6_findBest 28 = .ok (.aload_n 0, 1) := by decide +kernel
theorem dX6_findBest_29 : decode cX6_findBest 29 = .ok (.getfield 26, 3) := by decide +kernel
theorem dX6_findBest_32 : decode cX6_findBest 32 = .ok (.iload_n 2, 1) := by decide +kernel
theorem dX6_findBest_33 : decode cX6_findBest 33 = .ok (.invokevirtual 200, 3) := by decide +kernel
theorem dX6_findBest_36 : decode cX6_findBest 36 = .ok (.invokevirtual 209, 3) := by decide +kernel
theorem dX6_findBest_39 : decode cX6_findBest 39 = .ok (.ifCond .eq 5, 3) := by decide +kernel
theorem dX6_findBest_42 : decode cX6_findBest 42 = .ok (.iload_n 3, 1) := by decide +kernel
theorem dX6_findBest_43 : decode cX6_findBest 43 = .ok (.istore_n 2, 1) := by decide +kernel
theorem dX6_findBest_44 : decode cX6_findBest 44 = .ok (.iinc 3 1, 3) := by decide +kernel
theorem dX6_findBest_47 : decode cX6_findBest 47 = .ok (.goto (-38), 3) := by decide +kernel
theorem dX6_findBest_50 : decode cX6_findBest 50 = .ok (.iload_n 2, 1) := by decide +kernel
theorem dX6_findBest_51 : decode cX6_findBest 51 = .ok (.ireturn, 1) := by decide +kernel
theorem dX6_isBetter_0 : decode cX6_isBetter 0 = .ok (.aload_n 0, 1) := by decide +kernel
theorem dX6_isBetter_1 : decode cX6_isBetter 1 = .ok (.getfield 26, 3) := by decide +kernel
theorem dX6_isBetter_4 : decode cX6_isBetter 4 = .ok (.iload_n 1, 1) := by decide +kernel
theorem dX6_isBetter_5 : decode cX6_isBetter 5 = .ok (.invokevirtual 192, 3) := by decide +kernel
theorem dX6_isBetter_8 : decode cX6_isBetter 8 = .ok (.istore_n 3, 1) := by decide +kernel
theorem dX6_isBetter_9 : decode cX6_isBetter 9 = .ok (.iload_n 3, 1) := by decide +kernel
theorem dX6_isBetter_10 : decode cX6_isBetter 10 = .ok (.aload_n 0, 1) := by decide +kernel
theorem dX6_isBetter_11 : decode cX6_isBetter 11 = .ok (.getfield 26, 3) := by decide +kernel
theorem dX6_isBetter_14 : decode cX6_isBetter 14 = .ok (.iload_n 2, 1) := by decide +kernel
theorem dX6_isBetter_15 : decode cX6_isBetter 15 = .ok (.invokevirtual 192, 3) := by decide +kernel
theorem dX6_isBetter_18 : decode cX6_isBetter 18 = .ok (.if_icmp .eq 13, 3) := by decide +kernel
theorem dX6_isBetter_21 : decode cX6_isBetter 21 = .ok (.iload_n 3, 1) := by decide +kernel
theorem dX6_isBetter_22 : decode cX6_isBetter 22 = .ok (.ifCond .ne 7, 3) := by decide +kernel
theorem dX6_isBetter_25 : decode cX6_isBetter 25 = .ok (.iconst 1, 1) := by decide +kernel
theorem dX6_isBetter_26 : decode cX6_isBetter 26 = .ok (.goto 4, 3) := by decide +kernel
theorem dX6_isBetter_29 : decode cX6_isBetter 29 = .ok (.iconst 0, 1) := by decide +kernel
theorem dX6_isBetter_30 : decode cX6_isBetter 30 = .ok (.ireturn, 1) := by decide +kernel
theorem dX6_isBetter_31 : decode cX6_isBetter 31 = .ok (.aload_n 0, 1) := by decide +kernel
theorem dX6_isBetter_32 : decode cX6_isBetter 32 = .ok (.getfield 26, 3) := by decide +kernel
theorem dX6_isBetter_35 : decode cX6_isBetter 35 = .ok (.iload_n 1, 1) := by decide +kernel
theorem dX6_isBetter_36 : decode cX6_isBetter 36 = .ok (.invokevirtual 195, 3) := by decide +kernel
theorem dX6_isBetter_39 : decode cX6_isBetter 39 = .ok (.aload_n 0, 1) := by decide +kernel
theorem dX6_isBetter_40 : decode cX6_isBetter 40 = .ok (.getfield 26, 3) := by decide +kernel
theorem dX6_isBetter_43 : decode cX6_isBetter 43 = .ok (.iload_n 2, 1) := by decide +kernel
theorem dX6_isBetter_44 : decode cX6_isBetter 44 = .ok (.invokevirtual 195, 3) := by decide +kernel
theorem dX6_isBetter_47 : decode cX6_isBetter 47 = .ok (.isub, 1) := by decide +kernel
theorem dX6_isBetter_48 : decode cX6_isBetter 48 = .ok (.istore 4, 2) := by decide +kernel
theorem dX6_isBetter_50 : decode cX6_isBetter 50 = .ok (.iload_n 3, 1) := by decide +kernel
theorem dX6_isBetter_51 : decode cX6_isBetter 51 = .ok (.ifCond .eq 16, 3) := by decide +kernel
theorem dX6_isBetter_54 : decode cX6_isBetter 54 = .ok (.iload 4, 2) := by decide +kernel
theorem dX6_isBetter_56 : decode cX6_isBetter 56 = .ok (.ifCond .le 7, 3) := by decide +kernel
theorem dX6_isBetter_59 : decode cX6_isBetter 59 = .ok (.iconst 1, 1) := by decide +kernel
theorem dX6_isBetter_60 : decode cX6_isBetter 60 = .ok (.goto 17, 3) := by decide +kernel
theorem dX6_isBetter_63 : decode cX6_isBetter 63 = .ok (.iconst 0, 1) := by decide +kernel
theorem dX6_isBetter_64 : decode cX6_isBetter 64 = .ok (.goto 13, 3) := by decide +kernel
theorem dX6_isBetter_67 : decode cX6_isBetter 67 = .ok (.iload 4, 2) := by decide +kernel
theorem dX6_isBetter_69 : decode cX6_isBetter 69 = .ok (.ifCond .ge 7, 3) := by decide +kernel
theorem dX6_isBetter_72 : decode cX6_isBetter 72 = .ok (.iconst 1, 1) := by decide +kernel
theorem dX6_isBetter_73 : decode cX6_isBetter 73 = .ok (.goto 4, 3) := by decide +kernel
theorem dX6_isBetter_76 : decode cX6_isBetter 76 = .ok (.iconst 0, 1) := by decide +kernel
theorem dX6_isBetter_77 : decode cX6_isBetter 77 = .ok (.ireturn, 1) := by decide +kernel
theorem dX6_requireHeap_0 : decode cX6_requireHeap 0 = .ok (.iload_n 1, 1) := by decide +kernel
theorem dX6_requireHeap_1 : decode cX6_requireHeap 1 = .ok (.ifCond .lt 17, 3) := by decide +kernel
theorem dX6_requireHeap_4 : decode cX6_requireHeap 4 = .ok (.iload_n 1, 1) := by decide +kernel
theorem dX6_requireHeap_5 : decode cX6_requireHeap 5 = .ok (.aload_n 0, 1) := by decide +kernel
theorem dX6_requireHeap_6 : decode cX6_requireHeap 6 = .ok (.getfield 12, 3) := by decide +kernel
theorem dX6_requireHeap_9 : decode cX6_requireHeap 9 = .ok (.getfield 85, 3) := by decide +kernel
theorem dX6_requireHeap_12 : decode cX6_requireHeap 12 = .ok (.getfield 89, 3) := by decide +kernel
theorem dX6_requireHeap_15 : decode cX6_requireHeap 15 = .ok (.if_icmp .lt 13, 3) := by decide +kernel
theorem dX6_requireHeap_18 : decode cX6_requireHeap 18 = .ok (.new 161, 3) := by decide +kernel
theorem dX6_requireHeap_21 : decode cX6_requireHeap 21 = .ok (.dup, 1) := by decide +kernel
theorem dX6_requireHeap_22 : decode cX6_requireHeap 22 = .ok (.ldc 231, 2) := by decide +kernel
theorem dX6_requireHeap_24 : decode cX6_requireHeap 24 = .ok (.invokespecial 165, 3) := by decide +kernel
theorem dX6_requireHeap_27 : decode cX6_requireHeap 27 = .ok (.athrow, 1) := by decide +kernel
theorem dX6_requireHeap_28 : decode cX6_requireHeap 28 = .ok (.return_, 1) := by decide +kernel
theorem dX6_countersOf_0 : decode cX6_countersOf 0 = .ok (.aload_n 0, 1) := by decide +kernel
theorem dX6_countersOf_1 : decode cX6_countersOf 1 = .ok (.getfield 12, 3) := by decide +kernel
theorem dX6_countersOf_4 : decode cX6_countersOf 4 = .ok (.getfield 85, 3) := by decide +kernel
theorem dX6_countersOf_7 : decode cX6_countersOf 7 = .ok (.getfield 92, 3) := by decide +kernel
theorem dX6_countersOf_10 : decode cX6_countersOf 10 = .ok (.iload_n 1, 1) := by decide +kernel
theorem dX6_countersOf_11 : decode cX6_countersOf 11 = .ok (.invokestatic 180, 3) := by decide +kernel
theorem dX6_countersOf_14 : decode cX6_countersOf 14 = .ok (.ireturn, 1) := by decide +kernel
theorem dX6_solvePosition_0 : decode cX6_solvePosition 0 = .ok (.aload_n 0, 1) := by decide +kernel
theorem dX6_solvePosition_1 : decode cX6_solvePosition 1 = .ok (.getfield 26, 3) := by decide +kernel
theorem dX6_solvePosition_4 : decode cX6_solvePosition 4 = .ok (.aload_n 0, 1) := by decide +kernel
theorem dX6_solvePosition_5 : decode cX6_solvePosition 5 = .ok (.getfield 12, 3) := by decide +kernel
theorem dX6_solvePosition_8 : decode cX6_solvePosition 8 = .ok (.invokevirtual 212, 3) := by decide +kernel
theorem dX6_solvePosition_11 : decode cX6_solvePosition 11 = .ok (.aload_n 0, 1) := by decide +kernel
theorem dX6_solvePosition_12 : decode cX6_solvePosition 12 = .ok (.getfield 26, 3) := by decide +kernel
theorem dX6_solvePosition_15 : decode cX6_solvePosition 15 = .ok (.aload_n 0, 1) := by decide +kernel
theorem dX6_solvePosition_16 : decode cX6_solvePosition 16 = .ok (.getfield 12, 3) := by decide +kernel
theorem dX6_solvePosition_19 : decode cX6_solvePosition 19 = .ok (.getfield 85, 3) := by decide +kernel
theorem dX6_solvePosition_22 : decode cX6_solvePosition 22 = .ok (.getfield 92, 3) := by decide +kernel
theorem dX6_solvePosition_25 : decode cX6_solvePosition 25 = .ok (.invokevirtual 220, 3) := by decide +kernel
theorem dX6_solvePosition_28 : decode cX6_solvePosition 28 = .ok (.return_, 1) := by decide +kernel
theorem dX6_listMoves_0 : decode cX6_listMoves 0 = .ok (.aload_n 0, 1) := by decide +kernel
theorem dX6_listMoves_1 : decode cX6_listMoves 1 = .ok (.getfield 26, 3) := by decide +kernel
theorem dX6_listMoves_4 : decode cX6_listMoves 4 = .ok (.aload_n 0, 1) := by decide +kernel
theorem dX6_listMoves_5 : decode cX6_listMoves 5 = .ok (.getfield 12, 3) := by decide +kernel
theorem dX6_listMoves_8 : decode cX6_listMoves 8 = .ok (.invokevirtual 212, 3) := by decide +kernel
theorem dX6_listMoves_11 : decode cX6_listMoves 11 = .ok (.aload_n 0, 1) := by decide +kernel
theorem dX6_listMoves_12 : decode cX6_listMoves 12 = .ok (.getfield 26, 3) := by decide +kernel
theorem dX6_listMoves_15 : decode cX6_listMoves 15 = .ok (.aload_n 0, 1) := by decide +kernel
theorem dX6_listMoves_16 : decode cX6_listMoves 16 = .ok (.getfield 12, 3) := by decide +kernel
theorem dX6_listMoves_19 : decode cX6_listMoves 19 = .ok (.getfield 85, 3) := by decide +kernel
theorem dX6_listMoves_22 : decode cX6_listMoves 22 = .ok (.getfield 92, 3) := by decide +kernel
theorem dX6_listMoves_25 : decode cX6_listMoves 25 = .ok (.invokevirtual 233, 3) := by decide +kernel
theorem dX6_listMoves_28 : decode cX6_listMoves 28 = .ok (.ireturn, 1) := by decide +kernel
theorem dX6_pass_0 : decode cX6_pass 0 = .ok (.aload_n 0, 1) := by decide +kernel
theorem dX6_pass_1 : decode cX6_pass 1 = .ok (.getfield 12, 3) := by decide +kernel
theorem dX6_pass_4 : decode cX6_pass 4 = .ok (.getfield 85, 3) := by decide +kernel
theorem dX6_pass_7 : decode cX6_pass 7 = .ok (.getfield 92, 3) := by decide +kernel
theorem dX6_pass_10 : decode cX6_pass 10 = .ok (.invokestatic 95, 3) := by decide +kernel
theorem dX6_pass_13 : decode cX6_pass 13 = .ok (.ifCond .eq 10, 3) := by decide +kernel
theorem dX6_pass_16 : decode cX6_pass 16 = .ok (.aload_n 0, 1) := by decide +kernel
theorem dX6_pass_17 : decode cX6_pass 17 = .ok (.invokevirtual 121, 3) := by decide +kernel
theorem dX6_pass_20 : decode cX6_pass 20 = .ok (.ifCond .ne 14, 3) := by decide +kernel
theorem dX6_pass_23 : decode cX6_pass 23 = .ok (.new 254, 3) := by decide +kernel
theorem dX6_pass_26 : decode cX6_pass 26 = .ok (.dup, 1) := by decide +kernel
theorem dX6_pass_27 : decode cX6_pass 27 = .ok (.ldc_w 256, 3) := by decide +kernel
theorem dX6_pass_30 : decode cX6_pass 30 = .ok (.invokespecial 258, 3) := by decide +kernel
theorem dX6_pass_33 : decode cX6_pass 33 = .ok (.athrow, 1) := by decide +kernel
theorem dX6_pass_34 : decode cX6_pass 34 = .ok (.aload_n 0, 1) := by decide +kernel
theorem dX6_pass_35 : decode cX6_pass 35 = .ok (.invokevirtual 238, 3) := by decide +kernel
theorem dX6_pass_38 : decode cX6_pass 38 = .ok (.ifCond .eq 5, 3) := by decide +kernel
theorem dX6_pass_41 : decode cX6_pass 41 = .ok (.iconst (-1), 1) := by decide +kernel
theorem dX6_pass_42 : decode cX6_pass 42 = .ok (.ireturn, 1) := by decide +kernel
theorem dX6_pass_43 : decode cX6_pass 43 = .ok (.aload_n 0, 1) := by decide +kernel
theorem dX6_pass_44 : decode cX6_pass 44 = .ok (.ldc_w 259, 3) := by decide +kernel
theorem dX6_pass_47 : decode cX6_pass 47 = .ok (.invokevirtual 242, 3) := by decide +kernel
theorem dX6_pass_50 : decode cX6_pass 50 = .ok (.aload_n 0, 1) := by decide +kernel
theorem dX6_pass_51 : decode cX6_pass 51 = .ok (.getfield 12, 3) := by decide +kernel
theorem dX6_pass_54 : decode cX6_pass 54 = .ok (.getfield 85, 3) := by decide +kernel
theorem dX6_pass_57 : decode cX6_pass 57 = .ok (.getfield 92, 3) := by decide +kernel
theorem dX6_pass_60 : decode cX6_pass 60 = .ok (.invokestatic 95, 3) := by decide +kernel
theorem dX6_pass_63 : decode cX6_pass 63 = .ok (.ireturn, 1) := by decide +kernel
theorem dX6_setSize_0 : decode cX6_setSize 0 = .ok (.aload_n 0, 1) := by decide +kernel
theorem dX6_setSize_1 : decode cX6_setSize 1 = .ok (.iload_n 1, 1) := by decide +kernel
theorem dX6_setSize_2 : decode cX6_setSize 2 = .ok (.invokevirtual 171, 3) := by decide +kernel
theorem dX6_setSize_5 : decode cX6_setSize 5 = .ok (.iload_n 2, 1) := by decide +kernel
theorem dX6_setSize_6 : decode cX6_setSize 6 = .ok (.invokestatic 262, 3) := by decide +kernel
theorem dX6_setSize_9 : decode cX6_setSize 9 = .ok (.aload_n 0, 1) := by decide +kernel
theorem dX6_setSize_10 : decode cX6_setSize 10 = .ok (.getfield 33, 3) := by decide +kernel
theorem dX6_setSize_13 : decode cX6_setSize 13 = .ok (.aload_n 0, 1) := by decide +kernel
theorem dX6_setSize_14 : decode cX6_setSize 14 = .ok (.getfield 12, 3) := by decide +kernel
theorem dX6_setSize_17 : decode cX6_setSize 17 = .ok (.getfield 85, 3) := by decide +kernel
theorem dX6_setSize_20 : decode cX6_setSize 20 = .ok (.invokevirtual 265, 3) := by decide +kernel
theorem dX6_setSize_23 : decode cX6_setSize 23 = .ok (.aload_n 0, 1) := by decide +kernel
theorem dX6_setSize_24 : decode cX6_setSize 24 = .ok (.iload_n 1, 1) := by decide +kernel
theorem dX6_setSize_25 : decode cX6_setSize 25 = .ok (.invokevirtual 174, 3) := by decide +kernel
theorem dX6_setSize_28 : decode cX6_setSize 28 = .ok (.istore_n 3, 1) := by decide +kernel
theorem dX6_setSize_29 : decode cX6_setSize 29 = .ok (.aload_n 0, 1) := by decide +kernel
theorem dX6_setSize_30 : decode cX6_setSize 30 = .ok (.getfield 12, 3) := by decide +kernel
theorem dX6_setSize_33 : decode cX6_setSize 33 = .ok (.getfield 85, 3) := by decide +kernel
theorem dX6_setSize_36 : decode cX6_setSize 36 = .ok (.aload_n 0, 1) := by decide +kernel
theorem dX6_setSize_37 : decode cX6_setSize 37 = .ok (.getfield 12, 3) := by decide +kernel
theorem dX6_setSize_40 : decode cX6_setSize 40 = .ok (.getfield 85, 3) := by decide +kernel
theorem dX6_setSize_43 : decode cX6_setSize 43 = .ok (.getfield 92, 3) := by decide +kernel
theorem dX6_setSize_46 : decode cX6_setSize 46 = .ok (.iload_n 1, 1) := by decide +kernel
theorem dX6_setSize_47 : decode cX6_setSize 47 = .ok (.iload_n 2, 1) := by decide +kernel
theorem dX6_setSize_48 : decode cX6_setSize 48 = .ok (.invokestatic 216, 3) := by decide +kernel
theorem dX6_setSize_51 : decode cX6_setSize 51 = .ok (.putfield 92, 3) := by decide +kernel
theorem dX6_setSize_54 : decode cX6_setSize 54 = .ok (.iload_n 3, 1) := by decide +kernel
theorem dX6_setSize_55 : decode cX6_setSize 55 = .ok (.ireturn, 1) := by decide +kernel
theorem dX6_setPasses_0 : decode cX6_setPasses 0 = .ok (.iload_n 1, 1) := by decide +kernel
theorem dX6_setPasses_1 : decode cX6_setPasses 1 = .ok (.ifCond .lt 8, 3) := by decide +kernel
theorem dX6_setPasses_4 : decode cX6_setPasses 4 = .ok (.iload_n 1, 1) := by decide +kernel
theorem dX6_setPasses_5 : decode cX6_setPasses 5 = .ok (.iconst 3, 1) := by decide +kernel
theorem dX6_setPasses_6 : decode cX6_setPasses 6 = .ok (.if_icmp .le 14, 3) := by decide +kernel
theorem dX6_setPasses_9 : decode cX6_setPasses 9 = .ok (.new 56, 3) := by decide +kernel
theorem dX6_setPasses_12 : decode cX6_setPasses 12 = .ok (.dup, 1) := by decide +kernel
theorem dX6_setPasses_13 : decode cX6_setPasses 13 = .ok (.ldc_w 269, 3) := by decide +kernel
theorem dX6_setPasses_16 : decode cX6_setPasses 16 = .ok (.invokespecial 60, 3) := by decide +kernel
theorem dX6_setPasses_19 : decode cX6_setPasses 19 = .ok (.athrow, 1) := by decide +kernel
theorem dX6_setPasses_20 : decode cX6_setPasses 20 = .ok (.aload_n 0, 1) := by decide +kernel
theorem dX6_setPasses_21 : decode cX6_setPasses 21 = .ok (.getfield 33, 3) := by decide +kernel
theorem dX6_setPasses_24 : decode cX6_setPasses 24 = .ok (.aload_n 0, 1) := by decide +kernel
theorem dX6_setPasses_25 : decode cX6_setPasses 25 = .ok (.getfield 12, 3) := by decide +kernel
theorem dX6_setPasses_28 : decode cX6_setPasses 28 = .ok (.getfield 85, 3) := by decide +kernel
theorem dX6_setPasses_31 : decode cX6_setPasses 31 = .ok (.invokevirtual 265, 3) := by decide +kernel
theorem dX6_setPasses_34 : decode cX6_setPasses 34 = .ok (.aload_n 0, 1) := by decide +kernel
theorem dX6_setPasses_35 : decode cX6_setPasses 35 = .ok (.getfield 12, 3) := by decide +kernel
theorem dX6_setPasses_38 : decode cX6_setPasses 38 = .ok (.getfield 85, 3) := by decide +kernel
theorem dX6_setPasses_41 : decode cX6_setPasses 41 = .ok (.getfield 92, 3) := by decide +kernel
theorem dX6_setPasses_44 : decode cX6_setPasses 44 = .ok (.invokestatic 95, 3) := by decide +kernel
theorem dX6_setPasses_47 : decode cX6_setPasses 47 = .ok (.istore_n 2, 1) := by decide +kernel
theorem dX6_setPasses_48 : decode cX6_setPasses 48 = .ok (.aload_n 0, 1) := by decide +kernel
theorem dX6_setPasses_49 : decode cX6_setPasses 49 = .ok (.getfield 12, 3) := by decide +kernel
theorem dX6_setPasses_52 : decode cX6_setPasses 52 = .ok (.getfield 85, 3) := by decide +kernel
theorem dX6_setPasses_55 : decode cX6_setPasses 55 = .ok (.dup, 1) := by decide +kernel
theorem dX6_setPasses_56 : decode cX6_setPasses 56 = .ok (.getfield 92, 3) := by decide +kernel
theorem dX6_setPasses_59 : decode cX6_setPasses 59 = .ok (.iload_n 1, 1) := by decide +kernel
theorem dX6_setPasses_60 : decode cX6_setPasses 60 = .ok (.iload_n 2, 1) := by decide +kernel
theorem dX6_setPasses_61 : decode cX6_setPasses 61 = .ok (.isub, 1) := by decide +kernel
theorem dX6_setPasses_62 : decode cX6_setPasses 62 = .ok (.ldc_w 259, 3) := by decide +kernel
theorem dX6_setPasses_65 : decode cX6_setPasses 65 = .ok (.imul, 1) := by decide +kernel
theorem dX6_setPasses_66 : decode cX6_setPasses 66 = .ok (.iadd, 1) := by decide +kernel
theorem dX6_setPasses_67 : decode cX6_setPasses 67 = .ok (.putfield 92, 3) := by decide +kernel
theorem dX6_setPasses_70 : decode cX6_setPasses 70 = .ok (.iload_n 2, 1) := by decide +kernel
theorem dX6_setPasses_71 : decode cX6_setPasses 71 = .ok (.ireturn, 1) := by decide +kernel
theorem dX6_setMisere_0 : decode cX6_setMisere 0 = .ok (.aload_n 0, 1) := by decide +kernel
theorem dX6_setMisere_1 : decode cX6_setMisere 1 = .ok (.getfield 33, 3) := by decide +kernel
theorem dX6_setMisere_4 : decode cX6_setMisere 4 = .ok (.aload_n 0, 1) := by decide +kernel
theorem dX6_setMisere_5 : decode cX6_setMisere 5 = .ok (.getfield 12, 3) := by decide +kernel
theorem dX6_setMisere_8 : decode cX6_setMisere 8 = .ok (.getfield 85, 3) := by decide +kernel
theorem dX6_setMisere_11 : decode cX6_setMisere 11 = .ok (.invokevirtual 265, 3) := by decide +kernel
theorem dX6_setMisere_14 : decode cX6_setMisere 14 = .ok (.aload_n 0, 1) := by decide +kernel
theorem dX6_setMisere_15 : decode cX6_setMisere 15 = .ok (.getfield 12, 3) := by decide +kernel
theorem dX6_setMisere_18 : decode cX6_setMisere 18 = .ok (.getfield 85, 3) := by decide +kernel
theorem dX6_setMisere_21 : decode cX6_setMisere 21 = .ok (.getfield 102, 3) := by decide +kernel
theorem dX6_setMisere_24 : decode cX6_setMisere 24 = .ok (.istore_n 2, 1) := by decide +kernel
theorem dX6_setMisere_25 : decode cX6_setMisere 25 = .ok (.aload_n 0, 1) := by decide +kernel
theorem dX6_setMisere_26 : decode cX6_setMisere 26 = .ok (.getfield 12, 3) := by decide +kernel
theorem dX6_setMisere_29 : decode cX6_setMisere 29 = .ok (.getfield 85, 3) := by decide +kernel
theorem dX6_setMisere_32 : decode cX6_setMisere 32 = .ok (.iload_n 1, 1) := by decide +kernel
theorem dX6_setMisere_33 : decode cX6_setMisere 33 = .ok (.putfield 102, 3) := by decide +kernel
theorem dX6_setMisere_36 : decode cX6_setMisere 36 = .ok (.iload_n 2, 1) := by decide +kernel
theorem dX6_setMisere_37 : decode cX6_setMisere 37 = .ok (.ireturn, 1) := by decide +kernel
theorem dX6_addHeap_0 : decode cX6_addHeap 0 = .ok (.aload_n 0, 1) := by decide +kernel
theorem dX6_addHeap_1 : decode cX6_addHeap 1 = .ok (.iload_n 1, 1) := by decide +kernel
theorem dX6_addHeap_2 : decode cX6_addHeap 2 = .ok (.invokevirtual 124, 3) := by decide +kernel
theorem dX6_addHeap_5 : decode cX6_addHeap 5 = .ok (.pop, 1) := by decide +kernel
theorem dX6_addHeap_6 : decode cX6_addHeap 6 = .ok (.iload_n 2, 1) := by decide +kernel
theorem dX6_addHeap_7 : decode cX6_addHeap 7 = .ok (.invokestatic 262, 3) := by decide +kernel
theorem dX6_addHeap_10 : decode cX6_addHeap 10 = .ok (.aload_n 0, 1) := by decide +kernel
theorem dX6_addHeap_11 : decode cX6_addHeap 11 = .ok (.getfield 12, 3) := by decide +kernel
theorem dX6_addHeap_14 : decode cX6_addHeap 14 = .ok (.getfield 85, 3) := by decide +kernel
theorem dX6_addHeap_17 : decode cX6_addHeap 17 = .ok (.getfield 89, 3) := by decide +kernel
theorem dX6_addHeap_20 : decode cX6_addHeap 20 = .ok (.iconst 4, 1) := by decide +kernel
theorem dX6_addHeap_21 : decode cX6_addHeap 21 = .ok (.if_icmp .lt 14, 3) := by decide +kernel
theorem dX6_addHeap_24 : decode cX6_addHeap 24 = .ok (.new 254, 3) := by decide +kernel
theorem dX6_addHeap_27 : decode cX6_addHeap 27 = .ok (.dup, 1) := by decide +kernel
theorem dX6_addHeap_28 : decode cX6_addHeap 28 = .ok (.ldc_w 271, 3) := by decide +kernel
theorem dX6_addHeap_31 : decode cX6_addHeap 31 = .ok (.invokespecial 258, 3) := by decide +kernel
theorem dX6_addHeap_34 : decode cX6_addHeap 34 = .ok (.athrow, 1) := by decide +kernel
theorem dX6_addHeap_35 : decode cX6_addHeap 35 = .ok (.aload_n 0, 1) := by decide +kernel
theorem dX6_addHeap_36 : decode cX6_addHeap 36 = .ok (.getfield 33, 3) := by decide +kernel
theorem dX6_addHeap_39 : decode cX6_addHeap 39 = .ok (.aload_n 0, 1) := by decide +kernel
theorem dX6_addHeap_40 : decode cX6_addHeap 40 = .ok (.getfield 12, 3) := by decide +kernel
theorem dX6_addHeap_43 : decode cX6_addHeap 43 = .ok (.getfield 85, 3) := by decide +kernel
theorem dX6_addHeap_46 : decode cX6_addHeap 46 = .ok (.invokevirtual 265, 3) := by decide +kernel
theorem dX6_addHeap_49 : decode cX6_addHeap 49 = .ok (.aload_n 0, 1) := by decide +kernel
theorem dX6_addHeap_50 : decode cX6_addHeap 50 = .ok (.getfield 12, 3) := by decide +kernel
theorem dX6_addHeap_53 : decode cX6_addHeap 53 = .ok (.getfield 85, 3) := by decide +kernel
theorem dX6_addHeap_56 : decode cX6_addHeap 56 = .ok (.iload_n 1, 1) := by decide +kernel
theorem dX6_addHeap_57 : decode cX6_addHeap 57 = .ok (.iload_n 2, 1) := by decide +kernel
theorem dX6_addHeap_58 : decode cX6_addHeap 58 = .ok (.invokevirtual 273, 3) := by decide +kernel
theorem dX6_addHeap_61 : decode cX6_addHeap 61 = .ok (.ireturn, 1) := by decide +kernel
theorem dX6_requireSize_0 : decode cX6_requireSize 0 = .ok (.iload_n 0, 1) := by decide +kernel
theorem dX6_requireSize_1 : decode cX6_requireSize 1 = .ok (.ifCond .lt 9, 3) := by decide +kernel
theorem dX6_requireSize_4 : decode cX6_requireSize 4 = .ok (.iload_n 0, 1) := by decide +kernel
theorem dX6_requireSize_5 : decode cX6_requireSize 5 = .ok (.bipush 15, 2) := by decide +kernel
theorem dX6_requireSize_7 : decode cX6_requireSize 7 = .ok (.if_icmp .le 14, 3) := by decide +kernel
theorem dX6_requireSize_10 : decode cX6_requireSize 10 = .ok (.new 56, 3) := by decide +kernel
theorem dX6_requireSize_13 : decode cX6_requireSize 13 = .ok (.dup, 1) := by decide +kernel
theorem dX6_requireSize_14 : decode cX6_requireSize 14 = .ok (.ldc_w 279, 3) := by decide +kernel
theorem dX6_requireSize_17 : decode cX6_requireSize 17 = .ok (.invokespecial 60, 3) := by decide +kernel
theorem dX6_requireSize_20 : decode cX6_requireSize 20 = .ok (.athrow, 1) := by decide +kernel
theorem dX6_requireSize_21 : decode cX6_requireSize 21 = .ok (.return_, 1) := by decide +kernel
theorem dX6_isRecordFull_0 : decode cX6_isRecordFull 0 = .ok (.aload_n 0, 1) := by decide +kernel
theorem dX6_isRecordFull_1 : decode cX6_isRecordFull 1 = .ok (.getfield 12, 3) := by decide +kernel
theorem dX6_isRecordFull_4 : decode cX6_isRecordFull 4 = .ok (.getfield 85, 3) := by decide +kernel
theorem dX6_isRecordFull_7 : decode cX6_isRecordFull 7 = .ok (.getfield 106, 3) := by decide +kernel
theorem dX6_isRecordFull_10 : decode cX6_isRecordFull 10 = .ok (.bipush 40, 2) := by decide +kernel
theorem dX6_isRecordFull_12 : decode cX6_isRecordFull 12 = .ok (.if_icmp .lt 7, 3) := by decide +kernel
theorem dX6_isRecordFull_15 : decode cX6_isRecordFull 15 = .ok (.iconst 1, 1) := by decide +kernel
theorem dX6_isRecordFull_16 : decode cX6_isRecordFull 16 = .ok (.goto 4, 3) := by decide +kernel
theorem dX6_isRecordFull_19 : decode cX6_isRecordFull 19 = .ok (.iconst 0, 1) := by decide +kernel
theorem dX6_isRecordFull_20 : decode cX6_isRecordFull 20 = .ok (.ireturn, 1) := by decide +kernel
theorem dX6_playMove_0 : decode cX6_playMove 0 = .ok (.aload_n 0, 1) := by decide +kernel
theorem dX6_playMove_1 : decode cX6_playMove 1 = .ok (.getfield 33, 3) := by decide +kernel
theorem dX6_playMove_4 : decode cX6_playMove 4 = .ok (.aload_n 0, 1) := by decide +kernel
theorem dX6_playMove_5 : decode cX6_playMove 5 = .ok (.getfield 12, 3) := by decide +kernel
theorem dX6_playMove_8 : decode cX6_playMove 8 = .ok (.getfield 85, 3) := by decide +kernel
theorem dX6_playMove_11 : decode cX6_playMove 11 = .ok (.invokevirtual 265, 3) := by decide +kernel
theorem dX6_playMove_14 : decode cX6_playMove 14 = .ok (.aload_n 0, 1) := by decide +kernel
theorem dX6_playMove_15 : decode cX6_playMove 15 = .ok (.getfield 12, 3) := by decide +kernel
theorem dX6_playMove_18 : decode cX6_playMove 18 = .ok (.getfield 85, 3) := by decide +kernel
theorem dX6_playMove_21 : decode cX6_playMove 21 = .ok (.dup, 1) := by decide +kernel
theorem dX6_playMove_22 : decode cX6_playMove 22 = .ok (.getfield 92, 3) := by decide +kernel
theorem dX6_playMove_25 : decode cX6_playMove 25 = .ok (.iload_n 1, 1) := by decide +kernel
theorem dX6_playMove_26 : decode cX6_playMove 26 = .ok (.isub, 1) := by decide +kernel
theorem dX6_playMove_27 : decode cX6_playMove 27 = .ok (.putfield 92, 3) := by decide +kernel
theorem dX6_playMove_30 : decode cX6_playMove 30 = .ok (.aload_n 0, 1) := by decide +kernel
theorem dX6_playMove_31 : decode cX6_playMove 31 = .ok (.getfield 12, 3) := by decide +kernel
theorem dX6_playMove_34 : decode cX6_playMove 34 = .ok (.getfield 85, 3) := by decide +kernel
theorem dX6_playMove_37 : decode cX6_playMove 37 = .ok (.iload_n 1, 1) := by decide +kernel
theorem dX6_playMove_38 : decode cX6_playMove 38 = .ok (.invokevirtual 281, 3) := by decide +kernel
theorem dX6_playMove_41 : decode cX6_playMove 41 = .ok (.return_, 1) := by decide +kernel
theorem dX6_checksum_0 : decode cX6_checksum 0 = .ok (.aload_n 0, 1) := by decide +kernel
theorem dX6_checksum_1 : decode cX6_checksum 1 = .ok (.getfield 12, 3) := by decide +kernel
theorem dX6_checksum_4 : decode cX6_checksum 4 = .ok (.getfield 85, 3) := by decide +kernel
theorem dX6_checksum_7 : decode cX6_checksum 7 = .ok (.astore_n 1, 1) := by decide +kernel
theorem dX6_checksum_8 : decode cX6_checksum 8 = .ok (.aload_n 0, 1) := by decide +kernel
theorem dX6_checksum_9 : decode cX6_checksum 9 = .ok (.getfield 12, 3) := by decide +kernel
theorem dX6_checksum_12 : decode cX6_checksum 12 = .ok (.getfield 82, 3) := by decide +kernel
theorem dX6_checksum_15 : decode cX6_checksum 15 = .ok (.i2l, 1) := by decide +kernel
theorem dX6_checksum_16 : decode cX6_checksum 16 = .ok (.lstore_n 2, 1) := by decide +kernel
theorem dX6_checksum_17 : decode cX6_checksum 17 = .ok (.iconst 0, 1) := by decide +kernel
theorem dX6_checksum_18 : decode cX6_checksum 18 = .ok (.istore 4, 2) := by decide +kernel
theorem dX6_checksum_20 : decode cX6_checksum 20 = .ok (.iload 4, 2) := by decide +kernel
theorem dX6_checksum_22 : decode cX6_checksum 22 = .ok (.aload_n 0, 1) := by decide +kernel
theorem dX6_checksum_23 : decode cX6_checksum 23 = .ok (.getfield 12, 3) := by decide +kernel
theorem dX6_checksum_26 : decode cX6_checksum 26 = .ok (.getfield 82, 3) := by decide +kernel
theorem dX6_checksum_29 : decode cX6_checksum 29 = .ok (.if_icmp .ge 29, 3) := by decide +kernel
theorem dX6_checksum_32 : decode cX6_checksum 32 = .ok (.ldc2_w 297, 3) := by decide +kernel
theorem dX6_checksum_35 : decode cX6_checksum 35 = .ok (.lload_n 2, 1) := by decide +kernel
theorem dX6_checksum_36 : decode cX6_checksum 36 = .ok (.lmul, 1) := by decide +kernel
theorem dX6_checksum_37 : decode cX6_checksum 37 = .ok (.aload_n 0, 1) := by decide +kernel
theorem dX6_checksum_38 : decode cX6_checksum 38 = .ok (.getfield 12, 3) := by decide +kernel
theorem dX6_checksum_41 : decode cX6_checksum 41 = .ok (.iload 4, 2) := by decide +kernel
theorem dX6_checksum_43 : decode cX6_checksum 43 = .ok (.invokevirtual 166, 3) := by decide +kernel
theorem dX6_checksum_46 : decode cX6_checksum 46 = .ok (.getfield 128, 3) := by decide +kernel
theorem dX6_checksum_49 : decode cX6_checksum 49 = .ok (.i2l, 1) := by decide +kernel
theorem dX6_checksum_50 : decode cX6_checksum 50 = .ok (.ladd, 1) := by decide +kernel
theorem dX6_checksum_51 : decode cX6_checksum 51 = .ok (.lstore_n 2, 1) := by decide +kernel
theorem dX6_checksum_52 : decode cX6_checksum 52 = .ok (.iinc 4 1, 3) := by decide +kernel
theorem dX6_checksum_55 : decode cX6_checksum 55 = .ok (.goto (-35), 3) := by decide +kernel
theorem dX6_checksum_58 : decode cX6_checksum 58 = .ok (.ldc2_w 297, 3) := by decide +kernel
theorem dX6_checksum_61 : decode cX6_checksum 61 = .ok (.lload_n 2, 1) := by decide +kernel
theorem dX6_checksum_62 : decode cX6_checksum 62 = .ok (.lmul, 1) := by decide +kernel
theorem dX6_checksum_63 : decode cX6_checksum 63 = .ok (.aload_n 1, 1) := by decide +kernel
theorem dX6_checksum_64 : decode cX6_checksum 64 = .ok (.getfield 89, 3) := by decide +kernel
theorem dX6_checksum_67 : decode cX6_checksum 67 = .ok (.i2l, 1) := by decide +kernel
theorem dX6_checksum_68 : decode cX6_checksum 68 = .ok (.ladd, 1) := by decide +kernel
theorem dX6_checksum_69 : decode cX6_checksum 69 = .ok (.lstore_n 2, 1) := by decide +kernel
theorem dX6_checksum_70 : decode cX6_checksum 70 = .ok (.iconst 0, 1) := by decide +kernel
theorem dX6_checksum_71 : decode cX6_checksum 71 = .ok (.istore 4, 2) := by decide +kernel
theorem dX6_checksum_73 : decode cX6_checksum 73 = .ok (.iload 4, 2) := by decide +kernel
theorem dX6_checksum_75 : decode cX6_checksum 75 = .ok (.aload_n 1, 1) := by decide +kernel
theorem dX6_checksum_76 : decode cX6_checksum 76 = .ok (.getfield 89, 3) := by decide +kernel
theorem dX6_checksum_79 : decode cX6_checksum 79 = .ok (.if_icmp .ge 40, 3) := by decide +kernel
theorem dX6_checksum_82 : decode cX6_checksum 82 = .ok (.ldc2_w 297, 3) := by decide +kernel
theorem dX6_checksum_85 : decode cX6_checksum 85 = .ok (.lload_n 2, 1) := by decide +kernel
theorem dX6_checksum_86 : decode cX6_checksum 86 = .ok (.lmul, 1) := by decide +kernel
theorem dX6_checksum_87 : decode cX6_checksum 87 = .ok (.aload_n 1, 1) := by decide +kernel
theorem dX6_checksum_88 : decode cX6_checksum 88 = .ok (.getfield 177, 3) := by decide +kernel
theorem dX6_checksum_91 : decode cX6_checksum 91 = .ok (.iload 4, 2) := by decide +kernel
theorem dX6_checksum_93 : decode cX6_checksum 93 = .ok (.invokestatic 180, 3) := by decide +kernel
theorem dX6_checksum_96 : decode cX6_checksum 96 = .ok (.i2l, 1) := by decide +kernel
theorem dX6_checksum_97 : decode cX6_checksum 97 = .ok (.ladd, 1) := by decide +kernel
theorem dX6_checksum_98 : decode cX6_checksum 98 = .ok (.lstore_n 2, 1) := by decide +kernel
theorem dX6_checksum_99 : decode cX6_checksum 99 = .ok (.ldc2_w 297, 3) := by decide +kernel
theorem dX6_checksum_102 : decode cX6_checksum 102 = .ok (.lload_n 2, 1) := by decide +kernel
theorem dX6_checksum_103 : decode cX6_checksum 103 = .ok (.lmul, 1) := by decide +kernel
theorem dX6_checksum_104 : decode cX6_checksum 104 = .ok (.aload_n 0, 1) := by decide +kernel
theorem dX6_checksum_105 : decode cX6_checksum 105 = .ok (.iload 4, 2) := by decide +kernel
theorem dX6_checksum_107 : decode cX6_checksum 107 = .ok (.invokevirtual 174, 3) := by decide +kernel
theorem dX6_checksum_110 : decode cX6_checksum 110 = .ok (.i2l, 1) := by decide +kernel
theorem dX6_checksum_111 : decode cX6_checksum 111 = .ok (.ladd, 1) := by decide +kernel
theorem dX6_checksum_112 : decode cX6_checksum 112 = .ok (.lstore_n 2, 1) := by decide +kernel
theorem dX6_checksum_113 : decode cX6_checksum 113 = .ok (.iinc 4 1, 3) := by decide +kernel
theorem dX6_checksum_116 : decode cX6_checksum 116 = .ok (.goto (-43), 3) := by decide +kernel
theorem dX6_checksum_119 : decode cX6_checksum 119 = .ok (.ldc2_w 297, 3) := by decide +kernel
theorem dX6_checksum_122 : decode cX6_checksum 122 = .ok (.lload_n 2, 1) := by decide +kernel
theorem dX6_checksum_123 : decode cX6_checksum 123 = .ok (.lmul, 1) := by decide +kernel
theorem dX6_checksum_124 : decode cX6_checksum 124 = .ok (.aload_n 1, 1) := by decide +kernel
theorem dX6_checksum_125 : decode cX6_checksum 125 = .ok (.getfield 92, 3) := by decide +kernel
theorem dX6_checksum_128 : decode cX6_checksum 128 = .ok (.invokestatic 95, 3) := by decide +kernel
theorem dX6_checksum_131 : decode cX6_checksum 131 = .ok (.i2l, 1) := by decide +kernel
theorem dX6_checksum_132 : decode cX6_checksum 132 = .ok (.ladd, 1) := by decide +kernel
theorem dX6_checksum_133 : decode cX6_checksum 133 = .ok (.lstore_n 2, 1) := by decide +kernel
theorem dX6_checksum_134 : decode cX6_checksum 134 = .ok (.ldc2_w 297, 3) := by decide +kernel
theorem dX6_checksum_137 : decode cX6_checksum 137 = .ok (.lload_n 2, 1) := by decide +kernel
theorem dX6_checksum_138 : decode cX6_checksum 138 = .ok (.lmul, 1) := by decide +kernel
theorem dX6_checksum_139 : decode cX6_checksum 139 = .ok (.aload_n 0, 1) := by decide +kernel
theorem dX6_checksum_140 : decode cX6_checksum 140 = .ok (.getfield 12, 3) := by decide +kernel
theorem dX6_checksum_143 : decode cX6_checksum 143 = .ok (.getfield 99, 3) := by decide +kernel
theorem dX6_checksum_146 : decode cX6_checksum 146 = .ok (.i2l, 1) := by decide +kernel
theorem dX6_checksum_147 : decode cX6_checksum 147 = .ok (.ladd, 1) := by decide +kernel
theorem dX6_checksum_148 : decode cX6_checksum 148 = .ok (.lstore_n 2, 1) := by decide +kernel
theorem dX6_checksum_149 : decode cX6_checksum 149 = .ok (.ldc2_w 297, 3) := by decide +kernel
theorem dX6_checksum_152 : decode cX6_checksum 152 = .ok (.lload_n 2, 1) := by decide +kernel
theorem dX6_checksum_153 : decode cX6_checksum 153 = .ok (.lmul, 1) := by decide +kernel
theorem dX6_checksum_154 : decode cX6_checksum 154 = .ok (.aload_n 1, 1) := by decide +kernel
theorem dX6_checksum_155 : decode cX6_checksum 155 = .ok (.getfield 102, 3) := by decide +kernel
theorem dX6_checksum_158 : decode cX6_checksum 158 = .ok (.ifCond .eq 7, 3) := by decide +kernel
theorem dX6_checksum_161 : decode cX6_checksum 161 = .ok (.iconst 1, 1) := by decide +kernel
theorem dX6_checksum_162 : decode cX6_checksum 162 = .ok (.goto 4, 3) := by decide +kernel
theorem dX6_checksum_165 : decode cX6_checksum 165 = .ok (.iconst 0, 1) := by decide +kernel
theorem dX6_checksum_166 : decode cX6_checksum 166 = .ok (.i2l, 1) := by decide +kernel
theorem dX6_checksum_167 : decode cX6_checksum 167 = .ok (.ladd, 1) := by decide +kernel
theorem dX6_checksum_168 : decode cX6_checksum 168 = .ok (.lstore_n 2, 1) := by decide +kernel
theorem dX6_checksum_169 : decode cX6_checksum 169 = .ok (.ldc2_w 297, 3) := by decide +kernel
theorem dX6_checksum_172 : decode cX6_checksum 172 = .ok (.lload_n 2, 1) := by decide +kernel
theorem dX6_checksum_173 : decode cX6_checksum 173 = .ok (.lmul, 1) := by decide +kernel
theorem dX6_checksum_174 : decode cX6_checksum 174 = .ok (.aload_n 1, 1) := by decide +kernel
theorem dX6_checksum_175 : decode cX6_checksum 175 = .ok (.getfield 106, 3) := by decide +kernel
theorem dX6_checksum_178 : decode cX6_checksum 178 = .ok (.i2l, 1) := by decide +kernel
theorem dX6_checksum_179 : decode cX6_checksum 179 = .ok (.ladd, 1) := by decide +kernel
theorem dX6_checksum_180 : decode cX6_checksum 180 = .ok (.lstore_n 2, 1) := by decide +kernel
theorem dX6_checksum_181 : decode cX6_checksum 181 = .ok (.iconst 0, 1) := by decide +kernel
theorem dX6_checksum_182 : decode cX6_checksum 182 = .ok (.istore 4, 2) := by decide +kernel
theorem dX6_checksum_184 : decode cX6_checksum 184 = .ok (.iload 4, 2) := by decide +kernel
theorem dX6_checksum_186 : decode cX6_checksum 186 = .ok (.aload_n 1, 1) := by decide +kernel
theorem dX6_checksum_187 : decode cX6_checksum 187 = .ok (.getfield 106, 3) := by decide +kernel
theorem dX6_checksum_190 : decode cX6_checksum 190 = .ok (.if_icmp .ge 43, 3) := by decide +kernel
theorem dX6_checksum_193 : decode cX6_checksum 193 = .ok (.iconst 0, 1) := by decide +kernel
theorem dX6_checksum_194 : decode cX6_checksum 194 = .ok (.istore 5, 2) := by decide +kernel
theorem dX6_checksum_196 : decode cX6_checksum 196 = .ok (.iload 5, 2) := by decide +kernel
theorem dX6_checksum_198 : decode cX6_checksum 198 = .ok (.iconst 3, 1) := by decide +kernel
theorem dX6_checksum_199 : decode cX6_checksum 199 = .ok (.if_icmp .gt 28, 3) := by decide +kernel
theorem dX6_checksum_202 : decode cX6_checksum 202 = .ok (.ldc2_w 297, 3) := by decide +kernel
theorem dX6_checksum_205 : decode cX6_checksum 205 = .ok (.lload_n 2, 1) := by decide +kernel
theorem dX6_checksum_206 : decode cX6_checksum 206 = .ok (.lmul, 1) := by decide +kernel
theorem dX6_checksum_207 : decode cX6_checksum 207 = .ok (.aload_n 1, 1) := by decide +kernel
theorem dX6_checksum_208 : decode cX6_checksum 208 = .ok (.iload 4, 2) := by decide +kernel
theorem dX6_checksum_210 : decode cX6_checksum 210 = .ok (.invokevirtual 228, 3) := by decide +kernel
theorem dX6_checksum_213 : decode cX6_checksum 213 = .ok (.iload 5, 2) := by decide +kernel
theorem dX6_checksum_215 : decode cX6_checksum 215 = .ok (.invokestatic 203, 3) := by decide +kernel
theorem dX6_checksum_218 : decode cX6_checksum 218 = .ok (.i2l, 1) := by decide +kernel
theorem dX6_checksum_219 : decode cX6_checksum 219 = .ok (.ladd, 1) := by decide +kernel
theorem dX6_checksum_220 : decode cX6_checksum 220 = .ok (.lstore_n 2, 1) := by decide +kernel
theorem dX6_checksum_221 : decode cX6_checksum 221 = .ok (.iinc 5 1, 3) := by decide +kernel
theorem dX6_checksum_224 : decode cX6_checksum 224 = .ok (.goto (-28), 3) := by decide +kernel
theorem dX6_checksum_227 : decode cX6_checksum 227 = .ok (.iinc 4 1, 3) := by decide +kernel
theorem dX6_checksum_230 : decode cX6_checksum 230 = .ok (.goto (-46), 3) := by decide +kernel
theorem dX6_checksum_233 : decode cX6_checksum 233 = .ok (.lload_n 2, 1) := by decide +kernel
theorem dX6_checksum_234 : decode cX6_checksum 234 = .ok (.lreturn, 1) := by decide +kernel
theorem dX6_bitsOf_0 : decode cX6_bitsOf 0 = .ok (.iload_n 0, 1) := by decide +kernel
theorem dX6_bitsOf_1 : decode cX6_bitsOf 1 = .ok (.iconst 4, 1) := by decide +kernel
theorem dX6_bitsOf_2 : decode cX6_bitsOf 2 = .ok (.iload_n 1, 1) := by decide +kernel
theorem dX6_bitsOf_3 : decode cX6_bitsOf 3 = .ok (.imul, 1) := by decide +kernel
theorem dX6_bitsOf_4 : decode cX6_bitsOf 4 = .ok (.ishr, 1) := by decide +kernel
theorem dX6_bitsOf_5 : decode cX6_bitsOf 5 = .ok (.bipush 15, 2) := by decide +kernel
theorem dX6_bitsOf_7 : decode cX6_bitsOf 7 = .ok (.iand, 1) := by decide +kernel
theorem dX6_bitsOf_8 : decode cX6_bitsOf 8 = .ok (.ireturn, 1) := by decide +kernel
theorem dX6_withBits_0 : decode cX6_withBits 0 = .ok (.iload_n 0, 1) := by decide +kernel
theorem dX6_withBits_1 : decode cX6_withBits 1 = .ok (.bipush 15, 2) := by decide +kernel
theorem dX6_withBits_3 : decode cX6_withBits 3 = .ok (.iconst 4, 1) := by decide +kernel
theorem dX6_withBits_4 : decode cX6_withBits 4 = .ok (.iload_n 1, 1) := by decide +kernel
theorem dX6_withBits_5 : decode cX6_withBits 5 = .ok (.imul, 1) := by decide +kernel
theorem dX6_withBits_6 : decode cX6_withBits 6 = .ok (.ishl, 1) := by decide +kernel
theorem dX6_withBits_7 : decode cX6_withBits 7 = .ok (.iconst (-1), 1) := by decide +kernel
theorem dX6_withBits_8 : decode cX6_withBits 8 = .ok (.ixor, 1) := by decide +kernel
theorem dX6_withBits_9 : decode cX6_withBits 9 = .ok (.iand, 1) := by decide +kernel
theorem dX6_withBits_10 : decode cX6_withBits 10 = .ok (.iload_n 2, 1) := by decide +kernel
theorem dX6_withBits_11 : decode cX6_withBits 11 = .ok (.iconst 4, 1) := by decide +kernel
theorem dX6_withBits_12 : decode cX6_withBits 12 = .ok (.iload_n 1, 1) := by decide +kernel
theorem dX6_withBits_13 : decode cX6_withBits 13 = .ok (.imul, 1) := by decide +kernel
theorem dX6_withBits_14 : decode cX6_withBits 14 = .ok (.ishl, 1) := by decide +kernel
theorem dX6_withBits_15 : decode cX6_withBits 15 = .ok (.ior, 1) := by decide +kernel
theorem dX6_withBits_16 : decode cX6_withBits 16 = .ok (.ireturn, 1) := by decide +kernel
theorem dX6_passesOf_0 : decode cX6_passesOf 0 = .ok (.iload_n 0, 1) := by decide +kernel
theorem dX6_passesOf_1 : decode cX6_passesOf 1 = .ok (.bipush 16, 2) := by decide +kernel
theorem dX6_passesOf_3 : decode cX6_passesOf 3 = .ok (.ishr, 1) := by decide +kernel
theorem dX6_passesOf_4 : decode cX6_passesOf 4 = .ok (.ireturn, 1) := by decide +kernel
theorem dX6_describe_0 : decode cX6_describe 0 = .ok (.iload_n 0, 1) := by decide +kernel
theorem dX6_describe_1 : decode cX6_describe 1 = .ok (.iconst 0, 1) := by decide +kernel
theorem dX6_describe_2 : decode cX6_describe 2 = .ok (.invokestatic 301, 3) := by decide +kernel
theorem dX6_describe_5 : decode cX6_describe 5 = .ok (.istore_n 2, 1) := by decide +kernel
theorem dX6_describe_6 : decode cX6_describe 6 = .ok (.iload_n 2, 1) := by decide +kernel
theorem dX6_describe_7 : decode cX6_describe 7 = .ok (.iconst (-1), 1) := by decide +kernel
theorem dX6_describe_8 : decode cX6_describe 8 = .ok (.if_icmp .ne 7, 3) := by decide +kernel
theorem dX6_describe_11 : decode cX6_describe 11 = .ok (.iconst (-1), 1) := by decide +kernel
theorem dX6_describe_12 : decode cX6_describe 12 = .ok (.goto 10, 3) := by decide +kernel
theorem dX6_describe_15 : decode cX6_describe 15 = .ok (.iload_n 0, 1) := by decide +kernel
theorem dX6_describe_16 : decode cX6_describe 16 = .ok (.iload_n 2, 1) := by decide +kernel
theorem dX6_describe_17 : decode cX6_describe 17 = .ok (.iconst 1, 1) := by decide +kernel
theorem dX6_describe_18 : decode cX6_describe 18 = .ok (.iadd, 1) := by decide +kernel
theorem dX6_describe_19 : decode cX6_describe 19 = .ok (.invokestatic 301, 3) := by decide +kernel
theorem dX6_describe_22 : decode cX6_describe 22 = .ok (.istore_n 3, 1) := by decide +kernel
theorem dX6_describe_23 : decode cX6_describe 23 = .ok (.iload_n 1, 1) := by decide +kernel
theorem dX6_describe_24 : decode cX6_describe 24 = .ok (.tableswitch 52 0 2 #[28, 48, 50], 28) := by decide +kernel
theorem dX6_describe_52 : decode cX6_describe 52 = .ok (.iload_n 2, 1) := by decide +kernel
theorem dX6_describe_53 : decode cX6_describe 53 = .ok (.iconst (-1), 1) := by decide +kernel
theorem dX6_describe_54 : decode cX6_describe 54 = .ok (.if_icmp .ne 7, 3) := by decide +kernel
theorem dX6_describe_57 : decode cX6_describe 57 = .ok (.iconst 2, 1) := by decide +kernel
theorem dX6_describe_58 : decode cX6_describe 58 = .ok (.goto 13, 3) := by decide +kernel
theorem dX6_describe_61 : decode cX6_describe 61 = .ok (.iload_n 3, 1) := by decide +kernel
theorem dX6_describe_62 : decode cX6_describe 62 = .ok (.iconst (-1), 1) := by decide +kernel
theorem dX6_describe_63 : decode cX6_describe 63 = .ok (.if_icmp .ne 7, 3) := by decide +kernel
theorem dX6_describe_66 : decode cX6_describe 66 = .ok (.iconst 0, 1) := by decide +kernel
theorem dX6_describe_67 : decode cX6_describe 67 = .ok (.goto 4, 3) := by decide +kernel
theorem dX6_describe_70 : decode cX6_describe 70 = .ok (.iconst 1, 1) := by decide +kernel
theorem dX6_describe_71 : decode cX6_describe 71 = .ok (.ireturn, 1) := by decide +kernel
theorem dX6_describe_72 : decode cX6_describe 72 = .ok (.iload_n 2, 1) := by decide +kernel
theorem dX6_describe_73 : decode cX6_describe 73 = .ok (.ireturn, 1) := by decide +kernel
theorem dX6_describe_74 : decode cX6_describe 74 = .ok (.iload_n 3, 1) := by decide +kernel
theorem dX6_describe_75 : decode cX6_describe 75 = .ok (.ireturn, 1) := by decide +kernel
theorem dX6_describe_76 : decode cX6_describe 76 = .ok (.iload_n 2, 1) := by decide +kernel
theorem dX6_describe_77 : decode cX6_describe 77 = .ok (.iconst (-1), 1) := by decide +kernel
theorem dX6_describe_78 : decode cX6_describe 78 = .ok (.if_icmp .ne 7, 3) := by decide +kernel
theorem dX6_describe_81 : decode cX6_describe 81 = .ok (.iconst 0, 1) := by decide +kernel
theorem dX6_describe_82 : decode cX6_describe 82 = .ok (.goto 8, 3) := by decide +kernel
theorem dX6_describe_85 : decode cX6_describe 85 = .ok (.iload_n 0, 1) := by decide +kernel
theorem dX6_describe_86 : decode cX6_describe 86 = .ok (.iload_n 2, 1) := by decide +kernel
theorem dX6_describe_87 : decode cX6_describe 87 = .ok (.invokestatic 180, 3) := by decide +kernel
theorem dX6_describe_90 : decode cX6_describe 90 = .ok (.ireturn, 1) := by decide +kernel
theorem dX6_heapTakenFrom_0 : decode cX6_heapTakenFrom 0 = .ok (.iload_n 1, 1) := by decide +kernel
theorem dX6_heapTakenFrom_1 : decode cX6_heapTakenFrom 1 = .ok (.istore_n 2, 1) := by decide +kernel
theorem dX6_heapTakenFrom_2 : decode cX6_heapTakenFrom 2 = .ok (.iload_n 2, 1) := by decide +kernel
theorem dX6_heapTakenFrom_3 : decode cX6_heapTakenFrom 3 = .ok (.iconst 4, 1) := by decide +kernel
theorem dX6_heapTakenFrom_4 : decode cX6_heapTakenFrom 4 = .ok (.if_icmp .ge 19, 3) := by decide +kernel
theorem dX6_heapTakenFrom_7 : decode cX6_heapTakenFrom 7 = .ok (.iload_n 0, 1) := by decide +kernel
theorem dX6_heapTakenFrom_8 : decode cX6_heapTakenFrom 8 = .ok (.iload_n 2, 1) := by decide +kernel
theorem dX6_heapTakenFrom_9 : decode cX6_heapTakenFrom 9 = .ok (.invokestatic 180, 3) := by decide +kernel
theorem dX6_heapTakenFrom_12 : decode cX6_heapTakenFrom 12 = .ok (.ifCond .eq 5, 3) := by decide +kernel
theorem dX6_heapTakenFrom_15 : decode cX6_heapTakenFrom 15 = .ok (.iload_n 2, 1) := by decide +kernel
theorem dX6_heapTakenFrom_16 : decode cX6_heapTakenFrom 16 = .ok (.ireturn, 1) := by decide +kernel
theorem dX6_heapTakenFrom_17 : decode cX6_heapTakenFrom 17 = .ok (.iinc 2 1, 3) := by decide +kernel
theorem dX6_heapTakenFrom_20 : decode cX6_heapTakenFrom 20 = .ok (.goto (-18), 3) := by decide +kernel
theorem dX6_heapTakenFrom_23 : decode cX6_heapTakenFrom 23 = .ok (.iconst (-1), 1) := by decide +kernel
theorem dX6_heapTakenFrom_24 : decode cX6_heapTakenFrom 24 = .ok (.ireturn, 1) := by decide +kernel
theorem dJ5_init_d00df_0 : decode cJ5_init_d00df 0 = .ok (.aload_n 0, 1) := by decide +kernel
theorem dJ5_init_d00df_1 : decode cJ5_init_d00df 1 = .ok (.invokespecial 3, 3) := by decide +kernel
theorem dJ5_init_d00df_4 : decode cJ5_init_d00df 4 = .ok (.getstatic 18, 3) := by decide +kernel
theorem dJ5_init_d00df_7 : decode cJ5_init_d00df 7 = .ok (.ifCond .eq 18, 3) := by decide +kernel
theorem dJ5_init_d00df_10 : decode cJ5_init_d00df 10 = .ok (.aload_n 0, 1) := by decide +kernel
theorem dJ5_init_d00df_11 : decode cJ5_init_d00df 11 = .ok (.iload_n 1, 1) := by decide +kernel
theorem dJ5_init_d00df_12 : decode cJ5_init_d00df 12 = .ok (.newarray .byte, 2) := by decide +kernel
theorem dJ5_init_d00df_14 : decode cJ5_init_d00df 14 = .ok (.putfield 15, 3) := by decide +kernel
theorem dJ5_init_d00df_17 : decode cJ5_init_d00df 17 = .ok (.aload_n 0, 1) := by decide +kernel
theorem dJ5_init_d00df_18 : decode cJ5_init_d00df 18 = .ok (.iconst 0, 1) := by decide +kernel
theorem dJ5_init_d00df_19 : decode cJ5_init_d00df 19 = .ok (.putfield 22, 3) := by decide +kernel
theorem dJ5_init_d00df_22 : decode cJ5_init_d00df 22 = .ok (.goto 16, 3) := by decide +kernel
theorem dJ5_init_d00df_25 : decode cJ5_init_d00df 25 = .ok (.aload_n 0, 1) := by decide +kernel
theorem dJ5_init_d00df_26 : decode cJ5_init_d00df 26 = .ok (.iload_n 1, 1) := by decide +kernel
theorem dJ5_init_d00df_27 : decode cJ5_init_d00df 27 = .ok (.invokestatic 26, 3) := by decide +kernel
theorem dJ5_init_d00df_30 : decode cJ5_init_d00df 30 = .ok (.putfield 15, 3) := by decide +kernel
theorem dJ5_init_d00df_33 : decode cJ5_init_d00df 33 = .ok (.aload_n 0, 1) := by decide +kernel
theorem dJ5_init_d00df_34 : decode cJ5_init_d00df 34 = .ok (.iconst 1, 1) := by decide +kernel
theorem dJ5_init_d00df_35 : decode cJ5_init_d00df 35 = .ok (.putfield 22, 3) := by decide +kernel
theorem dJ5_init_d00df_38 : decode cJ5_init_d00df 38 = .ok (.return_, 1) := by decide +kernel
theorem dJ5_length_8abf5_0 : decode cJ5_length_8abf5 0 = .ok (.aload_n 0, 1) := by decide +kernel
theorem dJ5_length_8abf5_1 : decode cJ5_length_8abf5 1 = .ok (.getfield 79, 3) := by decide +kernel
theorem dJ5_length_8abf5_4 : decode cJ5_length_8abf5 4 = .ok (.ireturn, 1) := by decide +kernel
theorem dJ5_ensureCapacityInternal_d00df_0 : decode cJ5_ensureCapacityInternal_d00df 0 = .ok (.aload_n 0, 1) := by decide +kernel
theorem dJ5_ensureCapacityInternal_d00df_1 : decode cJ5_ensureCapacityInternal_d00df 1 = .ok (.getfield 15, 3) := by decide +kernel
theorem dJ5_ensureCapacityInternal_d00df_4 : decode cJ5_ensureCapacityInternal_d00df 4 = .ok (.arraylength, 1) := by decide +kernel
theorem dJ5_ensureCapacityInternal_d00df_5 : decode cJ5_ensureCapacityInternal_d00df 5 = .ok (.aload_n 0, 1) := by decide +kernel
theorem dJ5_ensureCapacityInternal_d00df_6 : decode cJ5_ensureCapacityInternal_d00df 6 = .ok (.getfield 22, 3) := by decide +kernel
theorem dJ5_ensureCapacityInternal_d00df_9 : decode cJ5_ensureCapacityInternal_d00df 9 = .ok (.ishr, 1) := by decide +kernel
theorem dJ5_ensureCapacityInternal_d00df_10 : decode cJ5_ensureCapacityInternal_d00df 10 = .ok (.istore_n 2, 1) := by decide +kernel
theorem dJ5_ensureCapacityInternal_d00df_11 : decode cJ5_ensureCapacityInternal_d00df 11 = .ok (.iload_n 1, 1) := by decide +kernel
theorem dJ5_ensureCapacityInternal_d00df_12 : decode cJ5_ensureCapacityInternal_d00df 12 = .ok (.iload_n 2, 1) := by decide +kernel
theorem dJ5_ensureCapacityInternal_d00df_13 : decode cJ5_ensureCapacityInternal_d00df 13 = .ok (.isub, 1) := by decide +kernel
theorem dJ5_ensureCapacityInternal_d00df_14 : decode cJ5_ensureCapacityInternal_d00df 14 = .ok (.ifCond .le 24, 3) := by decide +kernel
theorem dJ5_ensureCapacityInternal_d00df_17 : decode cJ5_ensureCapacityInternal_d00df 17 = .ok (.aload_n 0, 1) := by decide +kernel
theorem dJ5_ensureCapacityInternal_d00df_18 : decode cJ5_ensureCapacityInternal_d00df 18 = .ok (.aload_n 0, 1) := by decide +kernel
theorem dJ5_ensureCapacityInternal_d00df_19 : decode cJ5_ensureCapacityInternal_d00df 19 = .ok (.getfield 15, 3) := by decide +kernel
theorem dJ5_ensureCapacityInternal_d00df_22 : decode cJ5_ensureCapacityInternal_d00df 22 = .ok (.aload_n 0, 1) := by decide +kernel
theorem dJ5_ensureCapacityInternal_d00df_23 : decode cJ5_ensureCapacityInternal_d00df 23 = .ok (.iload_n 1, 1) := by decide +kernel
theorem dJ5_ensureCapacityInternal_d00df_24 : decode cJ5_ensureCapacityInternal_d00df 24 = .ok (.invokevirtual 104, 3) := by decide +kernel
theorem dJ5_ensureCapacityInternal_d00df_27 : decode cJ5_ensureCapacityInternal_d00df 27 = .ok (.aload_n 0, 1) := by decide +kernel
theorem dJ5_ensureCapacityInternal_d00df_28 : decode cJ5_ensureCapacityInternal_d00df 28 = .ok (.getfield 22, 3) := by decide +kernel
theorem dJ5_ensureCapacityInternal_d00df_31 : decode cJ5_ensureCapacityInternal_d00df 31 = .ok (.ishl, 1) := by decide +kernel
theorem dJ5_ensureCapacityInternal_d00df_32 : decode cJ5_ensureCapacityInternal_d00df 32 = .ok (.invokestatic 108, 3) := by decide +kernel
theorem dJ5_ensureCapacityInternal_d00df_35 : decode cJ5_ensureCapacityInternal_d00df 35 = .ok (.putfield 15, 3) := by decide +kernel
theorem dJ5_ensureCapacityInternal_d00df_38 : decode cJ5_ensureCapacityInternal_d00df 38 = .ok (.return_, 1) := by decide +kernel
theorem dJ5_newCapacity_0f7a4_0 : decode cJ5_newCapacity_0f7a4 0 = .ok (.aload_n 0, 1) := by decide +kernel
theorem dJ5_newCapacity_0f7a4_1 : decode cJ5_newCapacity_0f7a4 1 = .ok (.getfield 15, 3) := by decide +kernel
theorem dJ5_newCapacity_0f7a4_4 : decode cJ5_newCapacity_0f7a4 4 = .ok (.arraylength, 1) := by decide +kernel
theorem dJ5_newCapacity_0f7a4_5 : decode cJ5_newCapacity_0f7a4 5 = .ok (.istore_n 2, 1) := by decide +kernel
theorem dJ5_newCapacity_0f7a4_6 : decode cJ5_newCapacity_0f7a4 6 = .ok (.iload_n 1, 1) := by decide +kernel
theorem dJ5_newCapacity_0f7a4_7 : decode cJ5_newCapacity_0f7a4 7 = .ok (.aload_n 0, 1) := by decide +kernel
theorem dJ5_newCapacity_0f7a4_8 : decode cJ5_newCapacity_0f7a4 8 = .ok (.getfield 22, 3) := by decide +kernel
theorem dJ5_newCapacity_0f7a4_11 : decode cJ5_newCapacity_0f7a4 11 = .ok (.ishl, 1) := by decide +kernel
theorem dJ5_newCapacity_0f7a4_12 : decode cJ5_newCapacity_0f7a4 12 = .ok (.istore_n 3, 1) := by decide +kernel
theorem dJ5_newCapacity_0f7a4_13 : decode cJ5_newCapacity_0f7a4 13 = .ok (.iload_n 3, 1) := by decide +kernel
theorem dJ5_newCapacity_0f7a4_14 : decode cJ5_newCapacity_0f7a4 14 = .ok (.iload_n 2, 1) := by decide +kernel
theorem dJ5_newCapacity_0f7a4_15 : decode cJ5_newCapacity_0f7a4 15 = .ok (.isub, 1) := by decide +kernel
theorem dJ5_newCapacity_0f7a4_16 : decode cJ5_newCapacity_0f7a4 16 = .ok (.istore 4, 2) := by decide +kernel
theorem dJ5_newCapacity_0f7a4_18 : decode cJ5_newCapacity_0f7a4 18 = .ok (.iload_n 2, 1) := by decide +kernel
theorem dJ5_newCapacity_0f7a4_19 : decode cJ5_newCapacity_0f7a4 19 = .ok (.iload 4, 2) := by decide +kernel
theorem dJ5_newCapacity_0f7a4_21 : decode cJ5_newCapacity_0f7a4 21 = .ok (.iload_n 2, 1) := by decide +kernel
theorem dJ5_newCapacity_0f7a4_22 : decode cJ5_newCapacity_0f7a4 22 = .ok (.iconst 2, 1) := by decide +kernel
theorem dJ5_newCapacity_0f7a4_23 : decode cJ5_newCapacity_0f7a4 23 = .ok (.aload_n 0, 1) := by decide +kernel
theorem dJ5_newCapacity_0f7a4_24 : decode cJ5_newCapacity_0f7a4 24 = .ok (.getfield 22, 3) := by decide +kernel
theorem dJ5_newCapacity_0f7a4_27 : decode cJ5_newCapacity_0f7a4 27 = .ok (.ishl, 1) := by decide +kernel
theorem dJ5_newCapacity_0f7a4_28 : decode cJ5_newCapacity_0f7a4 28 = .ok (.iadd, 1) := by decide +kernel
theorem dJ5_newCapacity_0f7a4_29 : decode cJ5_newCapacity_0f7a4 29 = .ok (.invokestatic 114, 3) := by decide +kernel
theorem dJ5_newCapacity_0f7a4_32 : decode cJ5_newCapacity_0f7a4 32 = .ok (.istore 5, 2) := by decide +kernel
theorem dJ5_newCapacity_0f7a4_34 : decode cJ5_newCapacity_0f7a4 34 = .ok (.iload 5, 2) := by decide +kernel
theorem dJ5_newCapacity_0f7a4_36 : decode cJ5_newCapacity_0f7a4 36 = .ok (.ldc 39, 2) := by decide +kernel
theorem dJ5_newCapacity_0f7a4_38 : decode cJ5_newCapacity_0f7a4 38 = .ok (.if_icmp .ne 13, 3) := by decide +kernel
theorem dJ5_newCapacity_0f7a4_41 : decode cJ5_newCapacity_0f7a4 41 = .ok (.new 120, 3) := by decide +kernel
theorem dJ5_newCapacity_0f7a4_44 : decode cJ5_newCapacity_0f7a4 44 = .ok (.dup, 1) := by decide +kernel
theorem dJ5_newCapacity_0f7a4_45 : decode cJ5_newCapacity_0f7a4 45 = .ok (.ldc 122, 2) := by decide +kernel
theorem dJ5_newCapacity_0f7a4_47 : decode cJ5_newCapacity_0f7a4 47 = .ok (.invokespecial 124, 3) := by decide +kernel
theorem dJ5_newCapacity_0f7a4_50 : decode cJ5_newCapacity_0f7a4 50 = .ok (.athrow, 1) := by decide +kernel
theorem dJ5_newCapacity_0f7a4_51 : decode cJ5_newCapacity_0f7a4 51 = .ok (.iload 5, 2) := by decide +kernel
theorem dJ5_newCapacity_0f7a4_53 : decode cJ5_newCapacity_0f7a4 53 = .ok (.aload_n 0, 1) := by decide +kernel
theorem dJ5_newCapacity_0f7a4_54 : decode cJ5_newCapacity_0f7a4 54 = .ok (.getfield 22, 3) := by decide +kernel
theorem dJ5_newCapacity_0f7a4_57 : decode cJ5_newCapacity_0f7a4 57 = .ok (.ishr, 1) := by decide +kernel
theorem dJ5_newCapacity_0f7a4_58 : decode cJ5_newCapacity_0f7a4 58 = .ok (.ireturn, 1) := by decide +kernel
theorem dJ5_inflate_da8c8_0 : decode cJ5_inflate_da8c8 0 = .ok (.aload_n 0, 1) := by decide +kernel
theorem dJ5_inflate_da8c8_1 : decode cJ5_inflate_da8c8 1 = .ok (.invokevirtual 83, 3) := by decide +kernel
theorem dJ5_inflate_da8c8_4 : decode cJ5_inflate_da8c8 4 = .ok (.ifCond .ne 4, 3) := by decide +kernel
theorem dJ5_inflate_da8c8_7 : decode cJ5_inflate_da8c8 7 = .ok (.return_, 1) := by decide +kernel
theorem dJ5_inflate_da8c8_8 : decode cJ5_inflate_da8c8 8 = .ok (.aload_n 0, 1) := by decide +kernel
theorem dJ5_inflate_da8c8_9 : decode cJ5_inflate_da8c8 9 = .ok (.getfield 15, 3) := by decide +kernel
theorem dJ5_inflate_da8c8_12 : decode cJ5_inflate_da8c8 12 = .ok (.arraylength, 1) := by decide +kernel
theorem dJ5_inflate_da8c8_13 : decode cJ5_inflate_da8c8 13 = .ok (.invokestatic 26, 3) := by decide +kernel
theorem dJ5_inflate_da8c8_16 : decode cJ5_inflate_da8c8 16 = .ok (.astore_n 1, 1) := by decide +kernel
theorem dJ5_inflate_da8c8_17 : decode cJ5_inflate_da8c8 17 = .ok (.aload_n 0, 1) := by decide +kernel
theorem dJ5_inflate_da8c8_18 : decode cJ5_inflate_da8c8 18 = .ok (.getfield 15, 3) := by decide +kernel
theorem dJ5_inflate_da8c8_21 : decode cJ5_inflate_da8c8 21 = .ok (.iconst 0, 1) := by decide +kernel
theorem dJ5_inflate_da8c8_22 : decode cJ5_inflate_da8c8 22 = .ok (.aload_n 1, 1) := by decide +kernel
theorem dJ5_inflate_da8c8_23 : decode cJ5_inflate_da8c8 23 = .ok (.iconst 0, 1) := by decide +kernel
theorem dJ5_inflate_da8c8_24 : decode cJ5_inflate_da8c8 24 = .ok (.aload_n 0, 1) := by decide +kernel
theorem dJ5_inflate_da8c8_25 : decode cJ5_inflate_da8c8 25 = .ok (.getfield 79, 3) := by decide +kernel
theorem dJ5_inflate_da8c8_28 : decode cJ5_inflate_da8c8 28 = .ok (.invokestatic 125, 3) := by decide +kernel
theorem dJ5_inflate_da8c8_31 : decode cJ5_inflate_da8c8 31 = .ok (.aload_n 0, 1) := by decide +kernel
theorem dJ5_inflate_da8c8_32 : decode cJ5_inflate_da8c8 32 = .ok (.aload_n 1, 1) := by decide +kernel
theorem dJ5_inflate_da8c8_33 : decode cJ5_inflate_da8c8 33 = .ok (.putfield 15, 3) := by decide +kernel
theorem dJ5_inflate_da8c8_36 : decode cJ5_inflate_da8c8 36 = .ok (.aload_n 0, 1) := by decide +kernel
theorem dJ5_inflate_da8c8_37 : decode cJ5_inflate_da8c8 37 = .ok (.iconst 1, 1) := by decide +kernel
theorem dJ5_inflate_da8c8_38 : decode cJ5_inflate_da8c8 38 = .ok (.putfield 22, 3) := by decide +kernel
theorem dJ5_inflate_da8c8_41 : decode cJ5_inflate_da8c8 41 = .ok (.return_, 1) := by decide +kernel
theorem dJ5_charAt_5068e_0 : decode cJ5_charAt_5068e 0 = .ok (.aload_n 0, 1) := by decide +kernel
theorem dJ5_charAt_5068e_1 : decode cJ5_charAt_5068e 1 = .ok (.getfield 22, 3) := by decide +kernel
theorem dJ5_charAt_5068e_4 : decode cJ5_charAt_5068e 4 = .ok (.istore_n 2, 1) := by decide +kernel
theorem dJ5_charAt_5068e_5 : decode cJ5_charAt_5068e 5 = .ok (.aload_n 0, 1) := by decide +kernel
theorem dJ5_charAt_5068e_6 : decode cJ5_charAt_5068e 6 = .ok (.getfield 15, 3) := by decide +kernel
theorem dJ5_charAt_5068e_9 : decode cJ5_charAt_5068e 9 = .ok (.astore_n 3, 1) := by decide +kernel
theorem dJ5_charAt_5068e_10 : decode cJ5_charAt_5068e 10 = .ok (.aload_n 0, 1) := by decide +kernel
theorem dJ5_charAt_5068e_11 : decode cJ5_charAt_5068e 11 = .ok (.getfield 79, 3) := by decide +kernel
theorem dJ5_charAt_5068e_14 : decode cJ5_charAt_5068e 14 = .ok (.aload_n 3, 1) := by decide +kernel
theorem dJ5_charAt_5068e_15 : decode cJ5_charAt_5068e 15 = .ok (.arraylength, 1) := by decide +kernel
theorem dJ5_charAt_5068e_16 : decode cJ5_charAt_5068e 16 = .ok (.iload_n 2, 1) := by decide +kernel
theorem dJ5_charAt_5068e_17 : decode cJ5_charAt_5068e 17 = .ok (.ishr, 1) := by decide +kernel
theorem dJ5_charAt_5068e_18 : decode cJ5_charAt_5068e 18 = .ok (.invokestatic 138, 3) := by decide +kernel
theorem dJ5_charAt_5068e_21 : decode cJ5_charAt_5068e 21 = .ok (.istore 4, 2) := by decide +kernel
theorem dJ5_charAt_5068e_23 : decode cJ5_charAt_5068e 23 = .ok (.iload_n 1, 1) := by decide +kernel
theorem dJ5_charAt_5068e_24 : decode cJ5_charAt_5068e 24 = .ok (.iload 4, 2) := by decide +kernel
theorem dJ5_charAt_5068e_26 : decode cJ5_charAt_5068e 26 = .ok (.invokestatic 144, 3) := by decide +kernel
theorem dJ5_charAt_5068e_29 : decode cJ5_charAt_5068e 29 = .ok (.iload_n 2, 1) := by decide +kernel
theorem dJ5_charAt_5068e_30 : decode cJ5_charAt_5068e 30 = .ok (.ifCond .ne 12, 3) := by decide +kernel
theorem dJ5_charAt_5068e_33 : decode cJ5_charAt_5068e 33 = .ok (.aload_n 3, 1) := by decide +kernel
theorem dJ5_charAt_5068e_34 : decode cJ5_charAt_5068e 34 = .ok (.iload_n 1, 1) := by decide +kernel
theorem dJ5_charAt_5068e_35 : decode cJ5_charAt_5068e 35 = .ok (.baload, 1) := by decide +kernel
theorem dJ5_charAt_5068e_36 : decode cJ5_charAt_5068e 36 = .ok (.sipush 255, 3) := by decide +kernel
theorem dJ5_charAt_5068e_39 : decode cJ5_charAt_5068e 39 = .ok (.iand, 1) := by decide +kernel
theorem dJ5_charAt_5068e_40 : decode cJ5_charAt_5068e 40 = .ok (.i2c, 1) := by decide +kernel
theorem dJ5_charAt_5068e_41 : decode cJ5_charAt_5068e 41 = .ok (.ireturn, 1) := by decide +kernel
theorem dJ5_charAt_5068e_42 : decode cJ5_charAt_5068e 42 = .ok (.aload_n 3, 1) := by decide +kernel
theorem dJ5_charAt_5068e_43 : decode cJ5_charAt_5068e 43 = .ok (.iload_n 1, 1) := by decide +kernel
theorem dJ5_charAt_5068e_44 : decode cJ5_charAt_5068e 44 = .ok (.invokestatic 148, 3) := by decide +kernel
theorem dJ5_charAt_5068e_47 : decode cJ5_charAt_5068e 47 = .ok (.ireturn, 1) := by decide +kernel
theorem dJ5_append_cf1ce_0 : decode cJ5_append_cf1ce 0 = .ok (.aload_n 1, 1) := by decide +kernel
theorem dJ5_append_cf1ce_1 : decode cJ5_append_cf1ce 1 = .ok (.ifnonnull 8, 3) := by decide +kernel
theorem dJ5_append_cf1ce_4 : decode cJ5_append_cf1ce 4 = .ok (.aload_n 0, 1) := by decide +kernel
theorem dJ5_append_cf1ce_5 : decode cJ5_append_cf1ce 5 = .ok (.invokevirtual 204, 3) := by decide +kernel
theorem dJ5_append_cf1ce_8 : decode cJ5_append_cf1ce 8 = .ok (.areturn, 1) := by decide +kernel
theorem dJ5_append_cf1ce_9 : decode cJ5_append_cf1ce 9 = .ok (.aload_n 1, 1) := by decide +kernel
theorem dJ5_append_cf1ce_10 : decode cJ5_append_cf1ce 10 = .ok (.invokevirtual 32, 3) := by decide +kernel
theorem dJ5_append_cf1ce_13 : decode cJ5_append_cf1ce 13 = .ok (.istore_n 2, 1) := by decide +kernel
theorem dJ5_append_cf1ce_14 : decode cJ5_append_cf1ce 14 = .ok (.aload_n 0, 1) := by decide +kernel
theorem dJ5_append_cf1ce_15 : decode cJ5_append_cf1ce 15 = .ok (.aload_n 0, 1) := by decide +kernel
theorem dJ5_append_cf1ce_16 : decode cJ5_append_cf1ce 16 = .ok (.getfield 79, 3) := by decide +kernel
theorem dJ5_append_cf1ce_19 : decode cJ5_append_cf1ce 19 = .ok (.iload_n 2, 1) := by decide +kernel
theorem dJ5_append_cf1ce_20 : decode cJ5_append_cf1ce 20 = .ok (.iadd, 1) := by decide +kernel
theorem dJ5_append_cf1ce_21 : decode cJ5_append_cf1ce 21 = .ok (.invokevirtual 100, 3) := by decide +kernel
theorem dJ5_append_cf1ce_24 : decode cJ5_append_cf1ce 24 = .ok (.aload_n 0, 1) := by decide +kernel
theorem dJ5_append_cf1ce_25 : decode cJ5_append_cf1ce 25 = .ok (.aload_n 0, 1) := by decide +kernel
theorem dJ5_append_cf1ce_26 : decode cJ5_append_cf1ce 26 = .ok (.getfield 79, 3) := by decide +kernel
theorem dJ5_append_cf1ce_29 : decode cJ5_append_cf1ce 29 = .ok (.aload_n 1, 1) := by decide +kernel
theorem dJ5_append_cf1ce_30 : decode cJ5_append_cf1ce 30 = .ok (.invokevirtual 208, 3) := by decide +kernel
theorem dJ5_append_cf1ce_33 : decode cJ5_append_cf1ce 33 = .ok (.aload_n 0, 1) := by decide +kernel
theorem dJ5_append_cf1ce_34 : decode cJ5_append_cf1ce 34 = .ok (.dup, 1) := by decide +kernel
theorem dJ5_append_cf1ce_35 : decode cJ5_append_cf1ce 35 = .ok (.getfield 79, 3) := by decide +kernel
theorem dJ5_append_cf1ce_38 : decode cJ5_append_cf1ce 38 = .ok (.iload_n 2, 1) := by decide +kernel
theorem dJ5_append_cf1ce_39 : decode cJ5_append_cf1ce 39 = .ok (.iadd, 1) := by decide +kernel
theorem dJ5_append_cf1ce_40 : decode cJ5_append_cf1ce 40 = .ok (.putfield 79, 3) := by decide +kernel
theorem dJ5_append_cf1ce_43 : decode cJ5_append_cf1ce 43 = .ok (.aload_n 0, 1) := by decide +kernel
theorem dJ5_append_cf1ce_44 : decode cJ5_append_cf1ce 44 = .ok (.areturn, 1) := by decide +kernel
theorem dJ5_appendNull_278bc_0 : decode cJ5_appendNull_278bc 0 = .ok (.aload_n 0, 1) := by decide +kernel
theorem dJ5_appendNull_278bc_1 : decode cJ5_appendNull_278bc 1 = .ok (.aload_n 0, 1) := by decide +kernel
theorem dJ5_appendNull_278bc_2 : decode cJ5_appendNull_278bc 2 = .ok (.getfield 79, 3) := by decide +kernel
theorem dJ5_appendNull_278bc_5 : decode cJ5_appendNull_278bc 5 = .ok (.iconst 4, 1) := by decide +kernel
theorem dJ5_appendNull_278bc_6 : decode cJ5_appendNull_278bc 6 = .ok (.iadd, 1) := by decide +kernel
theorem dJ5_appendNull_278bc_7 : decode cJ5_appendNull_278bc 7 = .ok (.invokevirtual 100, 3) := by decide +kernel
theorem dJ5_appendNull_278bc_10 : decode cJ5_appendNull_278bc 10 = .ok (.aload_n 0, 1) := by decide +kernel
theorem dJ5_appendNull_278bc_11 : decode cJ5_appendNull_278bc 11 = .ok (.getfield 79, 3) := by decide +kernel
theorem dJ5_appendNull_278bc_14 : decode cJ5_appendNull_278bc 14 = .ok (.istore_n 1, 1) := by decide +kernel
theorem dJ5_appendNull_278bc_15 : decode cJ5_appendNull_278bc 15 = .ok (.aload_n 0, 1) := by decide +kernel
theorem dJ5_appendNull_278bc_16 : decode cJ5_appendNull_278bc 16 = .ok (.getfield 15, 3) := by decide +kernel
theorem dJ5_appendNull_278bc_19 : decode cJ5_appendNull_278bc 19 = .ok (.astore_n 2, 1) := by decide +kernel
theorem dJ5_appendNull_278bc_20 : decode cJ5_appendNull_278bc 20 = .ok (.aload_n 0, 1) := by decide +kernel
theorem dJ5_appendNull_278bc_21 : decode cJ5_appendNull_278bc 21 = .ok (.invokevirtual 83, 3) := by decide +kernel
theorem dJ5_appendNull_278bc_24 : decode cJ5_appendNull_278bc 24 = .ok (.ifCond .eq 38, 3) := by decide +kernel
theorem dJ5_appendNull_278bc_27 : decode cJ5_appendNull_278bc 27 = .ok (.aload_n 2, 1) := by decide +kernel
theorem dJ5_appendNull_278bc_28 : decode cJ5_appendNull_278bc 28 = .ok (.iload_n 1, 1) := by decide +kernel
theorem dJ5_appendNull_278bc_29 : decode cJ5_appendNull_278bc 29 = .ok (.iinc 1 1, 3) := by decide +kernel
theorem dJ5_appendNull_278bc_32 : decode cJ5_appendNull_278bc 32 = .ok (.bipush 110, 2) := by decide +kernel
theorem dJ5_appendNull_278bc_34 : decode cJ5_appendNull_278bc 34 = .ok (.bastore, 1) := by decide +kernel
theorem dJ5_appendNull_278bc_35 : decode cJ5_appendNull_278bc 35 = .ok (.aload_n 2, 1) := by decide +kernel
