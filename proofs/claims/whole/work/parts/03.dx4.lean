theorem dX7_findsShared_38 : decode cX7_findsShared 38 = .ok (.istore 4, 2) := by decide +kernel
theorem dX7_findsShared_40 : decode cX7_findsShared 40 = .ok (.iconst 1, 1) := by decide +kernel
theorem dX7_findsShared_41 : decode cX7_findsShared 41 = .ok (.istore 5, 2) := by decide +kernel
theorem dX7_findsShared_43 : decode cX7_findsShared 43 = .ok (.iload 5, 2) := by decide +kernel
theorem dX7_findsShared_45 : decode cX7_findsShared 45 = .ok (.iload 4, 2) := by decide +kernel
theorem dX7_findsShared_47 : decode cX7_findsShared 47 = .ok (.if_icmp .gt 36, 3) := by decide +kernel
theorem dX7_findsShared_50 : decode cX7_findsShared 50 = .ok (.aload_n 0, 1) := by decide +kernel
theorem dX7_findsShared_51 : decode cX7_findsShared 51 = .ok (.getfield 225, 3) := by decide +kernel
theorem dX7_findsShared_54 : decode cX7_findsShared 54 = .ok (.iload 5, 2) := by decide +kernel
theorem dX7_findsShared_56 : decode cX7_findsShared 56 = .ok (.invokestatic 313, 3) := by decide +kernel
theorem dX7_findsShared_59 : decode cX7_findsShared 59 = .ok (.ifCond .eq 18, 3) := by decide +kernel
theorem dX7_findsShared_62 : decode cX7_findsShared 62 = .ok (.aload_n 0, 1) := by decide +kernel
theorem dX7_findsShared_63 : decode cX7_findsShared 63 = .ok (.iload_n 1, 1) := by decide +kernel
theorem dX7_findsShared_64 : decode cX7_findsShared 64 = .ok (.iconst 1, 1) := by decide +kernel
theorem dX7_findsShared_65 : decode cX7_findsShared 65 = .ok (.iload_n 2, 1) := by decide +kernel
theorem dX7_findsShared_66 : decode cX7_findsShared 66 = .ok (.iload_n 3, 1) := by decide +kernel
theorem dX7_findsShared_67 : decode cX7_findsShared 67 = .ok (.iload 5, 2) := by decide +kernel
theorem dX7_findsShared_69 : decode cX7_findsShared 69 = .ok (.invokevirtual 347, 3) := by decide +kernel
theorem dX7_findsShared_72 : decode cX7_findsShared 72 = .ok (.ifCond .eq 5, 3) := by decide +kernel
theorem dX7_findsShared_75 : decode cX7_findsShared 75 = .ok (.iconst 1, 1) := by decide +kernel
theorem dX7_findsShared_76 : decode cX7_findsShared 76 = .ok (.ireturn, 1) := by decide +kernel
theorem dX7_findsShared_77 : decode cX7_findsShared 77 = .ok (.iinc 5 1, 3) := by decide +kernel
theorem dX7_findsShared_80 : decode cX7_findsShared 80 = .ok (.goto (-37), 3) := by decide +kernel
theorem dX7_findsShared_83 : decode cX7_findsShared 83 = .ok (.iconst 0, 1) := by decide +kernel
theorem dX7_findsShared_84 : decode cX7_findsShared 84 = .ok (.ireturn, 1) := by decide +kernel
theorem dX7_movesNow_0 : decode cX7_movesNow 0 = .ok (.aload_n 0, 1) := by decide +kernel
theorem dX7_movesNow_1 : decode cX7_movesNow 1 = .ok (.iconst (-1), 1) := by decide +kernel
theorem dX7_movesNow_2 : decode cX7_movesNow 2 = .ok (.invokevirtual 354, 3) := by decide +kernel
theorem dX7_movesNow_5 : decode cX7_movesNow 5 = .ok (.istore_n 1, 1) := by decide +kernel
theorem dX7_movesNow_6 : decode cX7_movesNow 6 = .ok (.aload_n 0, 1) := by decide +kernel
theorem dX7_movesNow_7 : decode cX7_movesNow 7 = .ok (.getfield 326, 3) := by decide +kernel
theorem dX7_movesNow_10 : decode cX7_movesNow 10 = .ok (.ireturn, 1) := by decide +kernel
theorem dX7_bestMove_0 : decode cX7_bestMove 0 = .ok (.aload_n 0, 1) := by decide +kernel
theorem dX7_bestMove_1 : decode cX7_bestMove 1 = .ok (.invokevirtual 357, 3) := by decide +kernel
theorem dX7_bestMove_4 : decode cX7_bestMove 4 = .ok (.aload_n 0, 1) := by decide +kernel
theorem dX7_bestMove_5 : decode cX7_bestMove 5 = .ok (.aload_n 0, 1) := by decide +kernel
theorem dX7_bestMove_6 : decode cX7_bestMove 6 = .ok (.invokevirtual 341, 3) := by decide +kernel
theorem dX7_bestMove_9 : decode cX7_bestMove 9 = .ok (.invokevirtual 301, 3) := by decide +kernel
theorem dX7_bestMove_12 : decode cX7_bestMove 12 = .ok (.istore_n 1, 1) := by decide +kernel
theorem dX7_bestMove_13 : decode cX7_bestMove 13 = .ok (.iconst (-1), 1) := by decide +kernel
theorem dX7_bestMove_14 : decode cX7_bestMove 14 = .ok (.istore_n 2, 1) := by decide +kernel
theorem dX7_bestMove_15 : decode cX7_bestMove 15 = .ok (.iconst 0, 1) := by decide +kernel
theorem dX7_bestMove_16 : decode cX7_bestMove 16 = .ok (.istore_n 3, 1) := by decide +kernel
theorem dX7_bestMove_17 : decode cX7_bestMove 17 = .ok (.iconst 0, 1) := by decide +kernel
theorem dX7_bestMove_18 : decode cX7_bestMove 18 = .ok (.istore 4, 2) := by decide +kernel
theorem dX7_bestMove_20 : decode cX7_bestMove 20 = .ok (.aload_n 0, 1) := by decide +kernel
theorem dX7_bestMove_21 : decode cX7_bestMove 21 = .ok (.iload 4, 2) := by decide +kernel
theorem dX7_bestMove_23 : decode cX7_bestMove 23 = .ok (.invokevirtual 354, 3) := by decide +kernel
theorem dX7_bestMove_26 : decode cX7_bestMove 26 = .ok (.ifCond .eq 67, 3) := by decide +kernel
theorem dX7_bestMove_29 : decode cX7_bestMove 29 = .ok (.aload_n 0, 1) := by decide +kernel
theorem dX7_bestMove_30 : decode cX7_bestMove 30 = .ok (.aload_n 0, 1) := by decide +kernel
theorem dX7_bestMove_31 : decode cX7_bestMove 31 = .ok (.getfield 344, 3) := by decide +kernel
theorem dX7_bestMove_34 : decode cX7_bestMove 34 = .ok (.invokevirtual 298, 3) := by decide +kernel
theorem dX7_bestMove_37 : decode cX7_bestMove 37 = .ok (.istore 5, 2) := by decide +kernel
theorem dX7_bestMove_39 : decode cX7_bestMove 39 = .ok (.iload_n 1, 1) := by decide +kernel
theorem dX7_bestMove_40 : decode cX7_bestMove 40 = .ok (.ifCond .eq 14, 3) := by decide +kernel
theorem dX7_bestMove_43 : decode cX7_bestMove 43 = .ok (.aload_n 0, 1) := by decide +kernel
theorem dX7_bestMove_44 : decode cX7_bestMove 44 = .ok (.aload_n 0, 1) := by decide +kernel
theorem dX7_bestMove_45 : decode cX7_bestMove 45 = .ok (.getfield 344, 3) := by decide +kernel
theorem dX7_bestMove_48 : decode cX7_bestMove 48 = .ok (.invokevirtual 301, 3) := by decide +kernel
theorem dX7_bestMove_51 : decode cX7_bestMove 51 = .ok (.ifCond .ne 36, 3) := by decide +kernel
theorem dX7_bestMove_54 : decode cX7_bestMove 54 = .ok (.iload_n 2, 1) := by decide +kernel
theorem dX7_bestMove_55 : decode cX7_bestMove 55 = .ok (.iconst (-1), 1) := by decide +kernel
theorem dX7_bestMove_56 : decode cX7_bestMove 56 = .ok (.if_icmp .eq 25, 3) := by decide +kernel
theorem dX7_bestMove_59 : decode cX7_bestMove 59 = .ok (.iload_n 1, 1) := by decide +kernel
theorem dX7_bestMove_60 : decode cX7_bestMove 60 = .ok (.ifCond .eq 12, 3) := by decide +kernel
theorem dX7_bestMove_63 : decode cX7_bestMove 63 = .ok (.iload 5, 2) := by decide +kernel
theorem dX7_bestMove_65 : decode cX7_bestMove 65 = .ok (.iload_n 3, 1) := by decide +kernel
theorem dX7_bestMove_66 : decode cX7_bestMove 66 = .ok (.if_icmp .lt 15, 3) := by decide +kernel
theorem dX7_bestMove_69 : decode cX7_bestMove 69 = .ok (.goto 18, 3) := by decide +kernel
theorem dX7_bestMove_72 : decode cX7_bestMove 72 = .ok (.iload 5, 2) := by decide +kernel
theorem dX7_bestMove_74 : decode cX7_bestMove 74 = .ok (.iload_n 3, 1) := by decide +kernel
theorem dX7_bestMove_75 : decode cX7_bestMove 75 = .ok (.if_icmp .gt 6, 3) := by decide +kernel
theorem dX7_bestMove_78 : decode cX7_bestMove 78 = .ok (.goto 9, 3) := by decide +kernel
theorem dX7_bestMove_81 : decode cX7_bestMove 81 = .ok (.iload 4, 2) := by decide +kernel
theorem dX7_bestMove_83 : decode cX7_bestMove 83 = .ok (.istore_n 2, 1) := by decide +kernel
theorem dX7_bestMove_84 : decode cX7_bestMove 84 = .ok (.iload 5, 2) := by decide +kernel
theorem dX7_bestMove_86 : decode cX7_bestMove 86 = .ok (.istore_n 3, 1) := by decide +kernel
theorem dX7_bestMove_87 : decode cX7_bestMove 87 = .ok (.iinc 4 1, 3) := by decide +kernel
theorem dX7_bestMove_90 : decode cX7_bestMove 90 = .ok (.goto (-70), 3) := by decide +kernel
theorem dX7_bestMove_93 : decode cX7_bestMove 93 = .ok (.iload_n 2, 1) := by decide +kernel
theorem dX7_bestMove_94 : decode cX7_bestMove 94 = .ok (.ireturn, 1) := by decide +kernel
theorem dX7_winner_0 : decode cX7_winner 0 = .ok (.aload_n 0, 1) := by decide +kernel
theorem dX7_winner_1 : decode cX7_winner 1 = .ok (.invokevirtual 360, 3) := by decide +kernel
theorem dX7_winner_4 : decode cX7_winner 4 = .ok (.ifCond .le 7, 3) := by decide +kernel
theorem dX7_winner_7 : decode cX7_winner 7 = .ok (.iconst (-1), 1) := by decide +kernel
theorem dX7_winner_8 : decode cX7_winner 8 = .ok (.goto 22, 3) := by decide +kernel
theorem dX7_winner_11 : decode cX7_winner 11 = .ok (.aload_n 0, 1) := by decide +kernel
theorem dX7_winner_12 : decode cX7_winner 12 = .ok (.getfield 7, 3) := by decide +kernel
theorem dX7_winner_15 : decode cX7_winner 15 = .ok (.bipush 11, 2) := by decide +kernel
theorem dX7_winner_17 : decode cX7_winner 17 = .ok (.iaload, 1) := by decide +kernel
theorem dX7_winner_18 : decode cX7_winner 18 = .ok (.iconst 1, 1) := by decide +kernel
theorem dX7_winner_19 : decode cX7_winner 19 = .ok (.iadd, 1) := by decide +kernel
theorem dX7_winner_20 : decode cX7_winner 20 = .ok (.aload_n 0, 1) := by decide +kernel
theorem dX7_winner_21 : decode cX7_winner 21 = .ok (.getfield 7, 3) := by decide +kernel
theorem dX7_winner_24 : decode cX7_winner 24 = .ok (.bipush 10, 2) := by decide +kernel
theorem dX7_winner_26 : decode cX7_winner 26 = .ok (.iaload, 1) := by decide +kernel
theorem dX7_winner_27 : decode cX7_winner 27 = .ok (.iadd, 1) := by decide +kernel
theorem dX7_winner_28 : decode cX7_winner 28 = .ok (.iconst 2, 1) := by decide +kernel
theorem dX7_winner_29 : decode cX7_winner 29 = .ok (.irem, 1) := by decide +kernel
theorem dX7_winner_30 : decode cX7_winner 30 = .ok (.ireturn, 1) := by decide +kernel
theorem dX7_size_0 : decode cX7_size 0 = .ok (.aload_n 0, 1) := by decide +kernel
theorem dX7_size_1 : decode cX7_size 1 = .ok (.iconst 0, 1) := by decide +kernel
theorem dX7_size_2 : decode cX7_size 2 = .ok (.putfield 73, 3) := by decide +kernel
theorem dX7_size_5 : decode cX7_size 5 = .ok (.aload_n 0, 1) := by decide +kernel
theorem dX7_size_6 : decode cX7_size 6 = .ok (.iload_n 1, 1) := by decide +kernel
theorem dX7_size_7 : decode cX7_size 7 = .ok (.iconst 0, 1) := by decide +kernel
theorem dX7_size_8 : decode cX7_size 8 = .ok (.bipush 9, 2) := by decide +kernel
theorem dX7_size_10 : decode cX7_size 10 = .ok (.invokestatic 77, 3) := by decide +kernel
theorem dX7_size_13 : decode cX7_size 13 = .ok (.iconst 1, 1) := by decide +kernel
theorem dX7_size_14 : decode cX7_size 14 = .ok (.invokevirtual 256, 3) := by decide +kernel
theorem dX7_size_17 : decode cX7_size 17 = .ok (.ifCond .ne 5, 3) := by decide +kernel
theorem dX7_size_20 : decode cX7_size 20 = .ok (.iconst 0, 1) := by decide +kernel
theorem dX7_size_21 : decode cX7_size 21 = .ok (.ireturn, 1) := by decide +kernel
theorem dX7_size_22 : decode cX7_size 22 = .ok (.iload_n 1, 1) := by decide +kernel
theorem dX7_size_23 : decode cX7_size 23 = .ok (.tableswitch 110 0 8 #[49, 54, 61, 69, 74, 82, 87, 95, 105], 49) := by decide +kernel
theorem dX7_size_72 : decode cX7_size 72 = .ok (.aload_n 0, 1) := by decide +kernel
theorem dX7_size_73 : decode cX7_size 73 = .ok (.getfield 98, 3) := by decide +kernel
theorem dX7_size_76 : decode cX7_size 76 = .ok (.ireturn, 1) := by decide +kernel
theorem dX7_size_77 : decode cX7_size 77 = .ok (.aload_n 0, 1) := by decide +kernel
theorem dX7_size_78 : decode cX7_size 78 = .ok (.getfield 7, 3) := by decide +kernel
theorem dX7_size_81 : decode cX7_size 81 = .ok (.iconst 0, 1) := by decide +kernel
theorem dX7_size_82 : decode cX7_size 82 = .ok (.iaload, 1) := by decide +kernel
theorem dX7_size_83 : decode cX7_size 83 = .ok (.ireturn, 1) := by decide +kernel
theorem dX7_size_84 : decode cX7_size 84 = .ok (.aload_n 0, 1) := by decide +kernel
theorem dX7_size_85 : decode cX7_size 85 = .ok (.getfield 7, 3) := by decide +kernel
theorem dX7_size_88 : decode cX7_size 88 = .ok (.bipush 9, 2) := by decide +kernel
theorem dX7_size_90 : decode cX7_size 90 = .ok (.iaload, 1) := by decide +kernel
theorem dX7_size_91 : decode cX7_size 91 = .ok (.ireturn, 1) := by decide +kernel
theorem dX7_size_92 : decode cX7_size 92 = .ok (.aload_n 0, 1) := by decide +kernel
theorem dX7_size_93 : decode cX7_size 93 = .ok (.getfield 225, 3) := by decide +kernel
theorem dX7_size_96 : decode cX7_size 96 = .ok (.ireturn, 1) := by decide +kernel
theorem dX7_size_97 : decode cX7_size 97 = .ok (.aload_n 0, 1) := by decide +kernel
theorem dX7_size_98 : decode cX7_size 98 = .ok (.getfield 7, 3) := by decide +kernel
theorem dX7_size_101 : decode cX7_size 101 = .ok (.bipush 10, 2) := by decide +kernel
theorem dX7_size_103 : decode cX7_size 103 = .ok (.iaload, 1) := by decide +kernel
theorem dX7_size_104 : decode cX7_size 104 = .ok (.ireturn, 1) := by decide +kernel
theorem dX7_size_105 : decode cX7_size 105 = .ok (.aload_n 0, 1) := by decide +kernel
theorem dX7_size_106 : decode cX7_size 106 = .ok (.getfield 116, 3) := by decide +kernel
theorem dX7_size_109 : decode cX7_size 109 = .ok (.ireturn, 1) := by decide +kernel
theorem dX7_size_110 : decode cX7_size 110 = .ok (.aload_n 0, 1) := by decide +kernel
theorem dX7_size_111 : decode cX7_size 111 = .ok (.getfield 7, 3) := by decide +kernel
theorem dX7_size_114 : decode cX7_size 114 = .ok (.bipush 11, 2) := by decide +kernel
theorem dX7_size_116 : decode cX7_size 116 = .ok (.iaload, 1) := by decide +kernel
theorem dX7_size_117 : decode cX7_size 117 = .ok (.ireturn, 1) := by decide +kernel
theorem dX7_size_118 : decode cX7_size 118 = .ok (.aload_n 0, 1) := by decide +kernel
theorem dX7_size_119 : decode cX7_size 119 = .ok (.getfield 7, 3) := by decide +kernel
theorem dX7_size_122 : decode cX7_size 122 = .ok (.bipush 11, 2) := by decide +kernel
theorem dX7_size_124 : decode cX7_size 124 = .ok (.iaload, 1) := by decide +kernel
theorem dX7_size_125 : decode cX7_size 125 = .ok (.iconst 2, 1) := by decide +kernel
theorem dX7_size_126 : decode cX7_size 126 = .ok (.irem, 1) := by decide +kernel
theorem dX7_size_127 : decode cX7_size 127 = .ok (.ireturn, 1) := by decide +kernel
theorem dX7_size_128 : decode cX7_size 128 = .ok (.aload_n 0, 1) := by decide +kernel
theorem dX7_size_129 : decode cX7_size 129 = .ok (.invokevirtual 363, 3) := by decide +kernel
theorem dX7_size_132 : decode cX7_size 132 = .ok (.ireturn, 1) := by decide +kernel
theorem dX7_size_133 : decode cX7_size 133 = .ok (.aload_n 0, 1) := by decide +kernel
theorem dX7_size_134 : decode cX7_size 134 = .ok (.getfield 271, 3) := by decide +kernel
theorem dX7_size_137 : decode cX7_size 137 = .ok (.ireturn, 1) := by decide +kernel
theorem dX7_mayRule_0 : decode cX7_mayRule 0 = .ok (.aload_n 0, 1) := by decide +kernel
theorem dX7_mayRule_1 : decode cX7_mayRule 1 = .ok (.iload_n 1, 1) := by decide +kernel
theorem dX7_mayRule_2 : decode cX7_mayRule 2 = .ok (.iconst 0, 1) := by decide +kernel
theorem dX7_mayRule_3 : decode cX7_mayRule 3 = .ok (.aload_n 0, 1) := by decide +kernel
theorem dX7_mayRule_4 : decode cX7_mayRule 4 = .ok (.getfield 98, 3) := by decide +kernel
theorem dX7_mayRule_7 : decode cX7_mayRule 7 = .ok (.iconst 1, 1) := by decide +kernel
theorem dX7_mayRule_8 : decode cX7_mayRule 8 = .ok (.isub, 1) := by decide +kernel
theorem dX7_mayRule_9 : decode cX7_mayRule 9 = .ok (.invokestatic 77, 3) := by decide +kernel
theorem dX7_mayRule_12 : decode cX7_mayRule 12 = .ok (.iconst 1, 1) := by decide +kernel
theorem dX7_mayRule_13 : decode cX7_mayRule 13 = .ok (.invokevirtual 256, 3) := by decide +kernel
theorem dX7_mayRule_16 : decode cX7_mayRule 16 = .ok (.ireturn, 1) := by decide +kernel
theorem dX7_mayUpTo_0 : decode cX7_mayUpTo 0 = .ok (.aload_n 0, 1) := by decide +kernel
theorem dX7_mayUpTo_1 : decode cX7_mayUpTo 1 = .ok (.iload_n 1, 1) := by decide +kernel
theorem dX7_mayUpTo_2 : decode cX7_mayUpTo 2 = .ok (.invokevirtual 366, 3) := by decide +kernel
theorem dX7_mayUpTo_5 : decode cX7_mayUpTo 5 = .ok (.ifCond .eq 23, 3) := by decide +kernel
theorem dX7_mayUpTo_8 : decode cX7_mayUpTo 8 = .ok (.aload_n 0, 1) := by decide +kernel
theorem dX7_mayUpTo_9 : decode cX7_mayUpTo 9 = .ok (.iload_n 2, 1) := by decide +kernel
theorem dX7_mayUpTo_10 : decode cX7_mayUpTo 10 = .ok (.iconst 0, 1) := by decide +kernel
theorem dX7_mayUpTo_11 : decode cX7_mayUpTo 11 = .ok (.sipush 300, 3) := by decide +kernel
theorem dX7_mayUpTo_14 : decode cX7_mayUpTo 14 = .ok (.invokestatic 77, 3) := by decide +kernel
theorem dX7_mayUpTo_17 : decode cX7_mayUpTo 17 = .ok (.iconst 2, 1) := by decide +kernel
theorem dX7_mayUpTo_18 : decode cX7_mayUpTo 18 = .ok (.invokevirtual 256, 3) := by decide +kernel
theorem dX7_mayUpTo_21 : decode cX7_mayUpTo 21 = .ok (.ifCond .eq 7, 3) := by decide +kernel
theorem dX7_mayUpTo_24 : decode cX7_mayUpTo 24 = .ok (.iconst 1, 1) := by decide +kernel
theorem dX7_mayUpTo_25 : decode cX7_mayUpTo 25 = .ok (.goto 4, 3) := by decide +kernel
theorem dX7_mayUpTo_28 : decode cX7_mayUpTo 28 = .ok (.iconst 0, 1) := by decide +kernel
theorem dX7_mayUpTo_29 : decode cX7_mayUpTo 29 = .ok (.ireturn, 1) := by decide +kernel
theorem dX7_kind_0 : decode cX7_kind 0 = .ok (.aload_n 0, 1) := by decide +kernel
theorem dX7_kind_1 : decode cX7_kind 1 = .ok (.iconst 0, 1) := by decide +kernel
theorem dX7_kind_2 : decode cX7_kind 2 = .ok (.putfield 73, 3) := by decide +kernel
theorem dX7_kind_5 : decode cX7_kind 5 = .ok (.aload_n 0, 1) := by decide +kernel
theorem dX7_kind_6 : decode cX7_kind 6 = .ok (.iload_n 1, 1) := by decide +kernel
theorem dX7_kind_7 : decode cX7_kind 7 = .ok (.invokevirtual 366, 3) := by decide +kernel
theorem dX7_kind_10 : decode cX7_kind 10 = .ok (.ifCond .eq 12, 3) := by decide +kernel
theorem dX7_kind_13 : decode cX7_kind 13 = .ok (.aload_n 0, 1) := by decide +kernel
theorem dX7_kind_14 : decode cX7_kind 14 = .ok (.getfield 26, 3) := by decide +kernel
theorem dX7_kind_17 : decode cX7_kind 17 = .ok (.iload_n 1, 1) := by decide +kernel
theorem dX7_kind_18 : decode cX7_kind 18 = .ok (.iaload, 1) := by decide +kernel
theorem dX7_kind_19 : decode cX7_kind 19 = .ok (.goto 4, 3) := by decide +kernel
theorem dX7_kind_22 : decode cX7_kind 22 = .ok (.iconst 0, 1) := by decide +kernel
theorem dX7_kind_23 : decode cX7_kind 23 = .ok (.ireturn, 1) := by decide +kernel
theorem dX7_mayTake_0 : decode cX7_mayTake 0 = .ok (.aload_n 0, 1) := by decide +kernel
theorem dX7_mayTake_1 : decode cX7_mayTake 1 = .ok (.iconst 0, 1) := by decide +kernel
theorem dX7_mayTake_2 : decode cX7_mayTake 2 = .ok (.putfield 73, 3) := by decide +kernel
theorem dX7_mayTake_5 : decode cX7_mayTake 5 = .ok (.aload_n 0, 1) := by decide +kernel
theorem dX7_mayTake_6 : decode cX7_mayTake 6 = .ok (.iload_n 1, 1) := by decide +kernel
theorem dX7_mayTake_7 : decode cX7_mayTake 7 = .ok (.iload_n 2, 1) := by decide +kernel
theorem dX7_mayTake_8 : decode cX7_mayTake 8 = .ok (.invokevirtual 369, 3) := by decide +kernel
theorem dX7_mayTake_11 : decode cX7_mayTake 11 = .ok (.ifCond .eq 17, 3) := by decide +kernel
theorem dX7_mayTake_14 : decode cX7_mayTake 14 = .ok (.aload_n 0, 1) := by decide +kernel
theorem dX7_mayTake_15 : decode cX7_mayTake 15 = .ok (.iload_n 1, 1) := by decide +kernel
theorem dX7_mayTake_16 : decode cX7_mayTake 16 = .ok (.iload_n 2, 1) := by decide +kernel
theorem dX7_mayTake_17 : decode cX7_mayTake 17 = .ok (.iload_n 3, 1) := by decide +kernel
theorem dX7_mayTake_18 : decode cX7_mayTake 18 = .ok (.invokevirtual 92, 3) := by decide +kernel
theorem dX7_mayTake_21 : decode cX7_mayTake 21 = .ok (.ifCond .eq 7, 3) := by decide +kernel
theorem dX7_mayTake_24 : decode cX7_mayTake 24 = .ok (.iconst 1, 1) := by decide +kernel
theorem dX7_mayTake_25 : decode cX7_mayTake 25 = .ok (.goto 4, 3) := by decide +kernel
theorem dX7_mayTake_28 : decode cX7_mayTake 28 = .ok (.iconst 0, 1) := by decide +kernel
theorem dX7_mayTake_29 : decode cX7_mayTake 29 = .ok (.ireturn, 1) := by decide +kernel
theorem dX7_amounts_0 : decode cX7_amounts 0 = .ok (.aload_n 0, 1) := by decide +kernel
theorem dX7_amounts_1 : decode cX7_amounts 1 = .ok (.iconst 0, 1) := by decide +kernel
theorem dX7_amounts_2 : decode cX7_amounts 2 = .ok (.putfield 73, 3) := by decide +kernel
theorem dX7_amounts_5 : decode cX7_amounts 5 = .ok (.aload_n 0, 1) := by decide +kernel
theorem dX7_amounts_6 : decode cX7_amounts 6 = .ok (.iload_n 1, 1) := by decide +kernel
theorem dX7_amounts_7 : decode cX7_amounts 7 = .ok (.iload_n 2, 1) := by decide +kernel
theorem dX7_amounts_8 : decode cX7_amounts 8 = .ok (.invokevirtual 369, 3) := by decide +kernel
theorem dX7_amounts_11 : decode cX7_amounts 11 = .ok (.ifCond .eq 12, 3) := by decide +kernel
theorem dX7_amounts_14 : decode cX7_amounts 14 = .ok (.aload_n 0, 1) := by decide +kernel
theorem dX7_amounts_15 : decode cX7_amounts 15 = .ok (.iload_n 1, 1) := by decide +kernel
theorem dX7_amounts_16 : decode cX7_amounts 16 = .ok (.iload_n 2, 1) := by decide +kernel
theorem dX7_amounts_17 : decode cX7_amounts 17 = .ok (.invokevirtual 372, 3) := by decide +kernel
theorem dX7_amounts_20 : decode cX7_amounts 20 = .ok (.goto 4, 3) := by decide +kernel
theorem dX7_amounts_23 : decode cX7_amounts 23 = .ok (.iconst 0, 1) := by decide +kernel
theorem dX7_amounts_24 : decode cX7_amounts 24 = .ok (.ireturn, 1) := by decide +kernel
theorem dX7_value_0 : decode cX7_value 0 = .ok (.aload_n 0, 1) := by decide +kernel
theorem dX7_value_1 : decode cX7_value 1 = .ok (.iconst 0, 1) := by decide +kernel
theorem dX7_value_2 : decode cX7_value 2 = .ok (.putfield 73, 3) := by decide +kernel
theorem dX7_value_5 : decode cX7_value 5 = .ok (.aload_n 0, 1) := by decide +kernel
theorem dX7_value_6 : decode cX7_value 6 = .ok (.iload_n 1, 1) := by decide +kernel
theorem dX7_value_7 : decode cX7_value 7 = .ok (.iload_n 2, 1) := by decide +kernel
theorem dX7_value_8 : decode cX7_value 8 = .ok (.invokevirtual 369, 3) := by decide +kernel
theorem dX7_value_11 : decode cX7_value 11 = .ok (.ifCond .eq 12, 3) := by decide +kernel
theorem dX7_value_14 : decode cX7_value 14 = .ok (.aload_n 0, 1) := by decide +kernel
theorem dX7_value_15 : decode cX7_value 15 = .ok (.iload_n 1, 1) := by decide +kernel
theorem dX7_value_16 : decode cX7_value 16 = .ok (.iload_n 2, 1) := by decide +kernel
theorem dX7_value_17 : decode cX7_value 17 = .ok (.invokevirtual 101, 3) := by decide +kernel
theorem dX7_value_20 : decode cX7_value 20 = .ok (.goto 4, 3) := by decide +kernel
theorem dX7_value_23 : decode cX7_value 23 = .ok (.iconst 0, 1) := by decide +kernel
theorem dX7_value_24 : decode cX7_value 24 = .ok (.ireturn, 1) := by decide +kernel
theorem dX7_heapWith_0 : decode cX7_heapWith 0 = .ok (.aload_n 0, 1) := by decide +kernel
theorem dX7_heapWith_1 : decode cX7_heapWith 1 = .ok (.iconst 0, 1) := by decide +kernel
theorem dX7_heapWith_2 : decode cX7_heapWith 2 = .ok (.putfield 73, 3) := by decide +kernel
theorem dX7_heapWith_5 : decode cX7_heapWith 5 = .ok (.aload_n 0, 1) := by decide +kernel
theorem dX7_heapWith_6 : decode cX7_heapWith 6 = .ok (.iload_n 1, 1) := by decide +kernel
theorem dX7_heapWith_7 : decode cX7_heapWith 7 = .ok (.invokevirtual 366, 3) := by decide +kernel
theorem dX7_heapWith_10 : decode cX7_heapWith 10 = .ok (.ifCond .ne 5, 3) := by decide +kernel
theorem dX7_heapWith_13 : decode cX7_heapWith 13 = .ok (.iconst 0, 1) := by decide +kernel
theorem dX7_heapWith_14 : decode cX7_heapWith 14 = .ok (.ireturn, 1) := by decide +kernel
theorem dX7_heapWith_15 : decode cX7_heapWith 15 = .ok (.iload_n 3, 1) := by decide +kernel
theorem dX7_heapWith_16 : decode cX7_heapWith 16 = .ok (.istore 4, 2) := by decide +kernel
theorem dX7_heapWith_18 : decode cX7_heapWith 18 = .ok (.iconst 0, 1) := by decide +kernel
theorem dX7_heapWith_19 : decode cX7_heapWith 19 = .ok (.istore 5, 2) := by decide +kernel
theorem dX7_heapWith_21 : decode cX7_heapWith 21 = .ok (.iload 5, 2) := by decide +kernel
theorem dX7_heapWith_23 : decode cX7_heapWith 23 = .ok (.sipush 300, 3) := by decide +kernel
theorem dX7_heapWith_26 : decode cX7_heapWith 26 = .ok (.if_icmp .gt 34, 3) := by decide +kernel
theorem dX7_heapWith_29 : decode cX7_heapWith 29 = .ok (.aload_n 0, 1) := by decide +kernel
theorem dX7_heapWith_30 : decode cX7_heapWith 30 = .ok (.iload_n 1, 1) := by decide +kernel
theorem dX7_heapWith_31 : decode cX7_heapWith 31 = .ok (.iload 5, 2) := by decide +kernel
theorem dX7_heapWith_33 : decode cX7_heapWith 33 = .ok (.invokevirtual 101, 3) := by decide +kernel
theorem dX7_heapWith_36 : decode cX7_heapWith 36 = .ok (.iload_n 2, 1) := by decide +kernel
theorem dX7_heapWith_37 : decode cX7_heapWith 37 = .ok (.if_icmp .eq 6, 3) := by decide +kernel
theorem dX7_heapWith_40 : decode cX7_heapWith 40 = .ok (.goto 14, 3) := by decide +kernel
theorem dX7_heapWith_43 : decode cX7_heapWith 43 = .ok (.iload 4, 2) := by decide +kernel
theorem dX7_heapWith_45 : decode cX7_heapWith 45 = .ok (.ifCond .ne 6, 3) := by decide +kernel
theorem dX7_heapWith_48 : decode cX7_heapWith 48 = .ok (.iload 5, 2) := by decide +kernel
theorem dX7_heapWith_50 : decode cX7_heapWith 50 = .ok (.ireturn, 1) := by decide +kernel
theorem dX7_heapWith_51 : decode cX7_heapWith 51 = .ok (.iinc 4 (-1), 3) := by decide +kernel
theorem dX7_heapWith_54 : decode cX7_heapWith 54 = .ok (.iinc 5 1, 3) := by decide +kernel
theorem dX7_heapWith_57 : decode cX7_heapWith 57 = .ok (.goto (-36), 3) := by decide +kernel
theorem dX7_heapWith_60 : decode cX7_heapWith 60 = .ok (.iconst (-1), 1) := by decide +kernel
theorem dX7_heapWith_61 : decode cX7_heapWith 61 = .ok (.ireturn, 1) := by decide +kernel
theorem dX7_greatest_0 : decode cX7_greatest 0 = .ok (.aload_n 0, 1) := by decide +kernel
theorem dX7_greatest_1 : decode cX7_greatest 1 = .ok (.iconst 0, 1) := by decide +kernel
theorem dX7_greatest_2 : decode cX7_greatest 2 = .ok (.putfield 73, 3) := by decide +kernel
theorem dX7_greatest_5 : decode cX7_greatest 5 = .ok (.aload_n 0, 1) := by decide +kernel
theorem dX7_greatest_6 : decode cX7_greatest 6 = .ok (.iload_n 1, 1) := by decide +kernel
theorem dX7_greatest_7 : decode cX7_greatest 7 = .ok (.iload_n 2, 1) := by decide +kernel
theorem dX7_greatest_8 : decode cX7_greatest 8 = .ok (.invokevirtual 369, 3) := by decide +kernel
theorem dX7_greatest_11 : decode cX7_greatest 11 = .ok (.ifCond .ne 5, 3) := by decide +kernel
theorem dX7_greatest_14 : decode cX7_greatest 14 = .ok (.iconst 0, 1) := by decide +kernel
theorem dX7_greatest_15 : decode cX7_greatest 15 = .ok (.ireturn, 1) := by decide +kernel
theorem dX7_greatest_16 : decode cX7_greatest 16 = .ok (.iconst 0, 1) := by decide +kernel
theorem dX7_greatest_17 : decode cX7_greatest 17 = .ok (.istore_n 3, 1) := by decide +kernel
theorem dX7_greatest_18 : decode cX7_greatest 18 = .ok (.iconst 0, 1) := by decide +kernel
theorem dX7_greatest_19 : decode cX7_greatest 19 = .ok (.istore 4, 2) := by decide +kernel
theorem dX7_greatest_21 : decode cX7_greatest 21 = .ok (.iload 4, 2) := by decide +kernel
theorem dX7_greatest_23 : decode cX7_greatest 23 = .ok (.iload_n 2, 1) := by decide +kernel
theorem dX7_greatest_24 : decode cX7_greatest 24 = .ok (.if_icmp .gt 32, 3) := by decide +kernel
theorem dX7_greatest_27 : decode cX7_greatest 27 = .ok (.aload_n 0, 1) := by decide +kernel
theorem dX7_greatest_28 : decode cX7_greatest 28 = .ok (.iload_n 1, 1) := by decide +kernel
theorem dX7_greatest_29 : decode cX7_greatest 29 = .ok (.iload 4, 2) := by decide +kernel
theorem dX7_greatest_31 : decode cX7_greatest 31 = .ok (.invokevirtual 101, 3) := by decide +kernel
theorem dX7_greatest_34 : decode cX7_greatest 34 = .ok (.iload_n 3, 1) := by decide +kernel
theorem dX7_greatest_35 : decode cX7_greatest 35 = .ok (.if_icmp .le 13, 3) := by decide +kernel
theorem dX7_greatest_38 : decode cX7_greatest 38 = .ok (.aload_n 0, 1) := by decide +kernel
theorem dX7_greatest_39 : decode cX7_greatest 39 = .ok (.iload_n 1, 1) := by decide +kernel
theorem dX7_greatest_40 : decode cX7_greatest 40 = .ok (.iload 4, 2) := by decide +kernel
theorem dX7_greatest_42 : decode cX7_greatest 42 = .ok (.invokevirtual 101, 3) := by decide +kernel
theorem dX7_greatest_45 : decode cX7_greatest 45 = .ok (.goto 4, 3) := by decide +kernel
theorem dX7_greatest_48 : decode cX7_greatest 48 = .ok (.iload_n 3, 1) := by decide +kernel
theorem dX7_greatest_49 : decode cX7_greatest 49 = .ok (.istore_n 3, 1) := by decide +kernel
theorem dX7_greatest_50 : decode cX7_greatest 50 = .ok (.iinc 4 1, 3) := by decide +kernel
theorem dX7_greatest_53 : decode cX7_greatest 53 = .ok (.goto (-32), 3) := by decide +kernel
theorem dX7_greatest_56 : decode cX7_greatest 56 = .ok (.iload_n 3, 1) := by decide +kernel
theorem dX7_greatest_57 : decode cX7_greatest 57 = .ok (.ireturn, 1) := by decide +kernel
theorem dX7_zeros_0 : decode cX7_zeros 0 = .ok (.aload_n 0, 1) := by decide +kernel
theorem dX7_zeros_1 : decode cX7_zeros 1 = .ok (.iconst 0, 1) := by decide +kernel
theorem dX7_zeros_2 : decode cX7_zeros 2 = .ok (.putfield 73, 3) := by decide +kernel
theorem dX7_zeros_5 : decode cX7_zeros 5 = .ok (.aload_n 0, 1) := by decide +kernel
theorem dX7_zeros_6 : decode cX7_zeros 6 = .ok (.iload_n 1, 1) := by decide +kernel
theorem dX7_zeros_7 : decode cX7_zeros 7 = .ok (.iload_n 2, 1) := by decide +kernel
theorem dX7_zeros_8 : decode cX7_zeros 8 = .ok (.invokevirtual 369, 3) := by decide +kernel
theorem dX7_zeros_11 : decode cX7_zeros 11 = .ok (.ifCond .ne 5, 3) := by decide +kernel
theorem dX7_zeros_14 : decode cX7_zeros 14 = .ok (.dconst 0, 1) := by decide +kernel
theorem dX7_zeros_15 : decode cX7_zeros 15 = .ok (.dreturn, 1) := by decide +kernel
theorem dX7_zeros_16 : decode cX7_zeros 16 = .ok (.iconst 0, 1) := by decide +kernel
theorem dX7_zeros_17 : decode cX7_zeros 17 = .ok (.istore_n 3, 1) := by decide +kernel
theorem dX7_zeros_18 : decode cX7_zeros 18 = .ok (.iconst 0, 1) := by decide +kernel
theorem dX7_zeros_19 : decode cX7_zeros 19 = .ok (.istore 4, 2) := by decide +kernel
theorem dX7_zeros_21 : decode cX7_zeros 21 = .ok (.iload 4, 2) := by decide +kernel
theorem dX7_zeros_23 : decode cX7_zeros 23 = .ok (.iload_n 2, 1) := by decide +kernel
theorem dX7_zeros_24 : decode cX7_zeros 24 = .ok (.if_icmp .gt 27, 3) := by decide +kernel
theorem dX7_zeros_27 : decode cX7_zeros 27 = .ok (.iload_n 3, 1) := by decide +kernel
theorem dX7_zeros_28 : decode cX7_zeros 28 = .ok (.aload_n 0, 1) := by decide +kernel
theorem dX7_zeros_29 : decode cX7_zeros 29 = .ok (.iload_n 1, 1) := by decide +kernel
theorem dX7_zeros_30 : decode cX7_zeros 30 = .ok (.iload 4, 2) := by decide +kernel
theorem dX7_zeros_32 : decode cX7_zeros 32 = .ok (.invokevirtual 101, 3) := by decide +kernel
theorem dX7_zeros_35 : decode cX7_zeros 35 = .ok (.ifCond .ne 7, 3) := by decide +kernel
theorem dX7_zeros_38 : decode cX7_zeros 38 = .ok (.iconst 1, 1) := by decide +kernel
theorem dX7_zeros_39 : decode cX7_zeros 39 = .ok (.goto 4, 3) := by decide +kernel
theorem dX7_zeros_42 : decode cX7_zeros 42 = .ok (.iconst 0, 1) := by decide +kernel
theorem dX7_zeros_43 : decode cX7_zeros 43 = .ok (.iadd, 1) := by decide +kernel
theorem dX7_zeros_44 : decode cX7_zeros 44 = .ok (.istore_n 3, 1) := by decide +kernel
theorem dX7_zeros_45 : decode cX7_zeros 45 = .ok (.iinc 4 1, 3) := by decide +kernel
theorem dX7_zeros_48 : decode cX7_zeros 48 = .ok (.goto (-27), 3) := by decide +kernel
theorem dX7_zeros_51 : decode cX7_zeros 51 = .ok (.iload_n 3, 1) := by decide +kernel
theorem dX7_zeros_52 : decode cX7_zeros 52 = .ok (.i2d, 1) := by decide +kernel
theorem dX7_zeros_53 : decode cX7_zeros 53 = .ok (.iload_n 2, 1) := by decide +kernel
theorem dX7_zeros_54 : decode cX7_zeros 54 = .ok (.iconst 1, 1) := by decide +kernel
theorem dX7_zeros_55 : decode cX7_zeros 55 = .ok (.iadd, 1) := by decide +kernel
theorem dX7_zeros_56 : decode cX7_zeros 56 = .ok (.i2d, 1) := by decide +kernel
theorem dX7_zeros_57 : decode cX7_zeros 57 = .ok (.ddiv, 1) := by decide +kernel
theorem dX7_zeros_58 : decode cX7_zeros 58 = .ok (.dreturn, 1) := by decide +kernel
theorem dX7_period_0 : decode cX7_period 0 = .ok (.aload_n 0, 1) := by decide +kernel
theorem dX7_period_1 : decode cX7_period 1 = .ok (.iconst 0, 1) := by decide +kernel
theorem dX7_period_2 : decode cX7_period 2 = .ok (.putfield 73, 3) := by decide +kernel
theorem dX7_period_5 : decode cX7_period 5 = .ok (.aload_n 0, 1) := by decide +kernel
theorem dX7_period_6 : decode cX7_period 6 = .ok (.iload_n 1, 1) := by decide +kernel
theorem dX7_period_7 : decode cX7_period 7 = .ok (.iload_n 2, 1) := by decide +kernel
theorem dX7_period_8 : decode cX7_period 8 = .ok (.invokevirtual 369, 3) := by decide +kernel
theorem dX7_period_11 : decode cX7_period 11 = .ok (.ifCond .eq 12, 3) := by decide +kernel
theorem dX7_period_14 : decode cX7_period 14 = .ok (.aload_n 0, 1) := by decide +kernel
theorem dX7_period_15 : decode cX7_period 15 = .ok (.iload_n 1, 1) := by decide +kernel
theorem dX7_period_16 : decode cX7_period 16 = .ok (.iload_n 2, 1) := by decide +kernel
theorem dX7_period_17 : decode cX7_period 17 = .ok (.invokevirtual 113, 3) := by decide +kernel
theorem dX7_period_20 : decode cX7_period 20 = .ok (.goto 4, 3) := by decide +kernel
theorem dX7_period_23 : decode cX7_period 23 = .ok (.iconst 0, 1) := by decide +kernel
theorem dX7_period_24 : decode cX7_period 24 = .ok (.ireturn, 1) := by decide +kernel
theorem dX7_start_0 : decode cX7_start 0 = .ok (.aload_n 0, 1) := by decide +kernel
theorem dX7_start_1 : decode cX7_start 1 = .ok (.iconst 0, 1) := by decide +kernel
theorem dX7_start_2 : decode cX7_start 2 = .ok (.putfield 73, 3) := by decide +kernel
theorem dX7_start_5 : decode cX7_start 5 = .ok (.aload_n 0, 1) := by decide +kernel
theorem dX7_start_6 : decode cX7_start 6 = .ok (.iload_n 1, 1) := by decide +kernel
theorem dX7_start_7 : decode cX7_start 7 = .ok (.iload_n 2, 1) := by decide +kernel
theorem dX7_start_8 : decode cX7_start 8 = .ok (.invokevirtual 369, 3) := by decide +kernel
theorem dX7_start_11 : decode cX7_start 11 = .ok (.ifCond .eq 12, 3) := by decide +kernel
theorem dX7_start_14 : decode cX7_start 14 = .ok (.aload_n 0, 1) := by decide +kernel
theorem dX7_start_15 : decode cX7_start 15 = .ok (.iload_n 1, 1) := by decide +kernel
theorem dX7_start_16 : decode cX7_start 16 = .ok (.iload_n 2, 1) := by decide +kernel
theorem dX7_start_17 : decode cX7_start 17 = .ok (.invokevirtual 375, 3) := by decide +kernel
theorem dX7_start_20 : decode cX7_start 20 = .ok (.goto 4, 3) := by decide +kernel
theorem dX7_start_23 : decode cX7_start 23 = .ok (.iconst 0, 1) := by decide +kernel
theorem dX7_start_24 : decode cX7_start 24 = .ok (.ireturn, 1) := by decide +kernel
theorem dX7_isProved_0 : decode cX7_isProved 0 = .ok (.aload_n 0, 1) := by decide +kernel
theorem dX7_isProved_1 : decode cX7_isProved 1 = .ok (.iconst 0, 1) := by decide +kernel
theorem dX7_isProved_2 : decode cX7_isProved 2 = .ok (.putfield 73, 3) := by decide +kernel
theorem dX7_isProved_5 : decode cX7_isProved 5 = .ok (.aload_n 0, 1) := by decide +kernel
theorem dX7_isProved_6 : decode cX7_isProved 6 = .ok (.iload_n 1, 1) := by decide +kernel
theorem dX7_isProved_7 : decode cX7_isProved 7 = .ok (.iload_n 2, 1) := by decide +kernel
theorem dX7_isProved_8 : decode cX7_isProved 8 = .ok (.invokevirtual 369, 3) := by decide +kernel
theorem dX7_isProved_11 : decode cX7_isProved 11 = .ok (.ifCond .ne 5, 3) := by decide +kernel
theorem dX7_isProved_14 : decode cX7_isProved 14 = .ok (.iconst 0, 1) := by decide +kernel
theorem dX7_isProved_15 : decode cX7_isProved 15 = .ok (.ireturn, 1) := by decide +kernel
theorem dX7_isProved_16 : decode cX7_isProved 16 = .ok (.aload_n 0, 1) := by decide +kernel
theorem dX7_isProved_17 : decode cX7_isProved 17 = .ok (.iload_n 1, 1) := by decide +kernel
theorem dX7_isProved_18 : decode cX7_isProved 18 = .ok (.iload_n 2, 1) := by decide +kernel
theorem dX7_isProved_19 : decode cX7_isProved 19 = .ok (.invokevirtual 113, 3) := by decide +kernel
theorem dX7_isProved_22 : decode cX7_isProved 22 = .ok (.istore_n 3, 1) := by decide +kernel
theorem dX7_isProved_23 : decode cX7_isProved 23 = .ok (.iload_n 3, 1) := by decide +kernel
theorem dX7_isProved_24 : decode cX7_isProved 24 = .ok (.iconst (-1), 1) := by decide +kernel
theorem dX7_isProved_25 : decode cX7_isProved 25 = .ok (.if_icmp .eq 12, 3) := by decide +kernel
theorem dX7_isProved_28 : decode cX7_isProved 28 = .ok (.aload_n 0, 1) := by decide +kernel
theorem dX7_isProved_29 : decode cX7_isProved 29 = .ok (.getfield 26, 3) := by decide +kernel
theorem dX7_isProved_32 : decode cX7_isProved 32 = .ok (.iload_n 1, 1) := by decide +kernel
theorem dX7_isProved_33 : decode cX7_isProved 33 = .ok (.iaload, 1) := by decide +kernel
theorem dX7_isProved_34 : decode cX7_isProved 34 = .ok (.ifCond .eq 5, 3) := by decide +kernel
theorem dX7_isProved_37 : decode cX7_isProved 37 = .ok (.iconst 0, 1) := by decide +kernel
theorem dX7_isProved_38 : decode cX7_isProved 38 = .ok (.ireturn, 1) := by decide +kernel
theorem dX7_isProved_39 : decode cX7_isProved 39 = .ok (.iconst 0, 1) := by decide +kernel
theorem dX7_isProved_40 : decode cX7_isProved 40 = .ok (.istore 4, 2) := by decide +kernel
theorem dX7_isProved_42 : decode cX7_isProved 42 = .ok (.iconst 0, 1) := by decide +kernel
theorem dX7_isProved_43 : decode cX7_isProved 43 = .ok (.istore 5, 2) := by decide +kernel
theorem dX7_isProved_45 : decode cX7_isProved 45 = .ok (.iload 5, 2) := by decide +kernel
theorem dX7_isProved_47 : decode cX7_isProved 47 = .ok (.aload_n 0, 1) := by decide +kernel
theorem dX7_isProved_48 : decode cX7_isProved 48 = .ok (.getfield 29, 3) := by decide +kernel
theorem dX7_isProved_51 : decode cX7_isProved 51 = .ok (.iload_n 1, 1) := by decide +kernel
theorem dX7_isProved_52 : decode cX7_isProved 52 = .ok (.iaload, 1) := by decide +kernel
theorem dX7_isProved_53 : decode cX7_isProved 53 = .ok (.if_icmp .ge 45, 3) := by decide +kernel
theorem dX7_isProved_56 : decode cX7_isProved 56 = .ok (.aload_n 0, 1) := by decide +kernel
theorem dX7_isProved_57 : decode cX7_isProved 57 = .ok (.getfield 32, 3) := by decide +kernel
theorem dX7_isProved_60 : decode cX7_isProved 60 = .ok (.bipush 8, 2) := by decide +kernel
theorem dX7_isProved_62 : decode cX7_isProved 62 = .ok (.iload_n 1, 1) := by decide +kernel
theorem dX7_isProved_63 : decode cX7_isProved 63 = .ok (.imul, 1) := by decide +kernel
theorem dX7_isProved_64 : decode cX7_isProved 64 = .ok (.iload 5, 2) := by decide +kernel
theorem dX7_isProved_66 : decode cX7_isProved 66 = .ok (.iadd, 1) := by decide +kernel
theorem dX7_isProved_67 : decode cX7_isProved 67 = .ok (.iaload, 1) := by decide +kernel
theorem dX7_isProved_68 : decode cX7_isProved 68 = .ok (.iload 4, 2) := by decide +kernel
theorem dX7_isProved_70 : decode cX7_isProved 70 = .ok (.if_icmp .le 18, 3) := by decide +kernel
theorem dX7_isProved_73 : decode cX7_isProved 73 = .ok (.aload_n 0, 1) := by decide +kernel
theorem dX7_isProved_74 : decode cX7_isProved 74 = .ok (.getfield 32, 3) := by decide +kernel
theorem dX7_isProved_77 : decode cX7_isProved 77 = .ok (.bipush 8, 2) := by decide +kernel
theorem dX7_isProved_79 : decode cX7_isProved 79 = .ok (.iload_n 1, 1) := by decide +kernel
theorem dX7_isProved_80 : decode cX7_isProved 80 = .ok (.imul, 1) := by decide +kernel
theorem dX7_isProved_81 : decode cX7_isProved 81 = .ok (.iload 5, 2) := by decide +kernel
theorem dX7_isProved_83 : decode cX7_isProved 83 = .ok (.iadd, 1) := by decide +kernel
theorem dX7_isProved_84 : decode cX7_isProved 84 = .ok (.iaload, 1) := by decide +kernel
theorem dX7_isProved_85 : decode cX7_isProved 85 = .ok (.goto 5, 3) := by decide +kernel
theorem dX7_isProved_88 : decode cX7_isProved 88 = .ok (.iload 4, 2) := by decide +kernel
theorem dX7_isProved_90 : decode cX7_isProved 90 = .ok (.istore 4, 2) := by decide +kernel
theorem dX7_isProved_92 : decode cX7_isProved 92 = .ok (.iinc 5 1, 3) := by decide +kernel
theorem dX7_isProved_95 : decode cX7_isProved 95 = .ok (.goto (-50), 3) := by decide +kernel
theorem dX7_isProved_98 : decode cX7_isProved 98 = .ok (.iload_n 2, 1) := by decide +kernel
theorem dX7_isProved_99 : decode cX7_isProved 99 = .ok (.iload_n 3, 1) := by decide +kernel
theorem dX7_isProved_100 : decode cX7_isProved 100 = .ok (.isub, 1) := by decide +kernel
theorem dX7_isProved_101 : decode cX7_isProved 101 = .ok (.aload_n 0, 1) := by decide +kernel
theorem dX7_isProved_102 : decode cX7_isProved 102 = .ok (.iload_n 1, 1) := by decide +kernel
theorem dX7_isProved_103 : decode cX7_isProved 103 = .ok (.iload_n 2, 1) := by decide +kernel
theorem dX7_isProved_104 : decode cX7_isProved 104 = .ok (.invokevirtual 375, 3) := by decide +kernel
theorem dX7_isProved_107 : decode cX7_isProved 107 = .ok (.isub, 1) := by decide +kernel
theorem dX7_isProved_108 : decode cX7_isProved 108 = .ok (.iconst 1, 1) := by decide +kernel
theorem dX7_isProved_109 : decode cX7_isProved 109 = .ok (.iadd, 1) := by decide +kernel
theorem dX7_isProved_110 : decode cX7_isProved 110 = .ok (.iload 4, 2) := by decide +kernel
theorem dX7_isProved_112 : decode cX7_isProved 112 = .ok (.if_icmp .lt 7, 3) := by decide +kernel
theorem dX7_isProved_115 : decode cX7_isProved 115 = .ok (.iconst 1, 1) := by decide +kernel
theorem dX7_isProved_116 : decode cX7_isProved 116 = .ok (.goto 4, 3) := by decide +kernel
theorem dX7_isProved_119 : decode cX7_isProved 119 = .ok (.iconst 0, 1) := by decide +kernel
theorem dX7_isProved_120 : decode cX7_isProved 120 = .ok (.ireturn, 1) := by decide +kernel
theorem dX7_mayHeap_0 : decode cX7_mayHeap 0 = .ok (.aload_n 0, 1) := by decide +kernel
theorem dX7_mayHeap_1 : decode cX7_mayHeap 1 = .ok (.iload_n 1, 1) := by decide +kernel
theorem dX7_mayHeap_2 : decode cX7_mayHeap 2 = .ok (.iconst 0, 1) := by decide +kernel
theorem dX7_mayHeap_3 : decode cX7_mayHeap 3 = .ok (.aload_n 0, 1) := by decide +kernel
theorem dX7_mayHeap_4 : decode cX7_mayHeap 4 = .ok (.getfield 7, 3) := by decide +kernel
theorem dX7_mayHeap_7 : decode cX7_mayHeap 7 = .ok (.iconst 0, 1) := by decide +kernel
theorem dX7_mayHeap_8 : decode cX7_mayHeap 8 = .ok (.iaload, 1) := by decide +kernel
theorem dX7_mayHeap_9 : decode cX7_mayHeap 9 = .ok (.iconst 1, 1) := by decide +kernel
theorem dX7_mayHeap_10 : decode cX7_mayHeap 10 = .ok (.isub, 1) := by decide +kernel
theorem dX7_mayHeap_11 : decode cX7_mayHeap 11 = .ok (.invokestatic 77, 3) := by decide +kernel
theorem dX7_mayHeap_14 : decode cX7_mayHeap 14 = .ok (.iconst 1, 1) := by decide +kernel
theorem dX7_mayHeap_15 : decode cX7_mayHeap 15 = .ok (.invokevirtual 256, 3) := by decide +kernel
theorem dX7_mayHeap_18 : decode cX7_mayHeap 18 = .ok (.ireturn, 1) := by decide +kernel
theorem dX7_heap_0 : decode cX7_heap 0 = .ok (.aload_n 0, 1) := by decide +kernel
theorem dX7_heap_1 : decode cX7_heap 1 = .ok (.iconst 0, 1) := by decide +kernel
theorem dX7_heap_2 : decode cX7_heap 2 = .ok (.putfield 73, 3) := by decide +kernel
theorem dX7_heap_5 : decode cX7_heap 5 = .ok (.aload_n 0, 1) := by decide +kernel
theorem dX7_heap_6 : decode cX7_heap 6 = .ok (.iload_n 1, 1) := by decide +kernel
theorem dX7_heap_7 : decode cX7_heap 7 = .ok (.invokevirtual 378, 3) := by decide +kernel
theorem dX7_heap_10 : decode cX7_heap 10 = .ok (.ifCond .eq 17, 3) := by decide +kernel
theorem dX7_heap_13 : decode cX7_heap 13 = .ok (.aload_n 0, 1) := by decide +kernel
theorem dX7_heap_14 : decode cX7_heap 14 = .ok (.iload_n 2, 1) := by decide +kernel
theorem dX7_heap_15 : decode cX7_heap 15 = .ok (.iconst 0, 1) := by decide +kernel
theorem dX7_heap_16 : decode cX7_heap 16 = .ok (.iconst 3, 1) := by decide +kernel
theorem dX7_heap_17 : decode cX7_heap 17 = .ok (.invokestatic 77, 3) := by decide +kernel
theorem dX7_heap_20 : decode cX7_heap 20 = .ok (.iconst 2, 1) := by decide +kernel
theorem dX7_heap_21 : decode cX7_heap 21 = .ok (.invokevirtual 256, 3) := by decide +kernel
theorem dX7_heap_24 : decode cX7_heap 24 = .ok (.ifCond .ne 5, 3) := by decide +kernel
theorem dX7_heap_27 : decode cX7_heap 27 = .ok (.iconst 0, 1) := by decide +kernel
theorem dX7_heap_28 : decode cX7_heap 28 = .ok (.ireturn, 1) := by decide +kernel
theorem dX7_heap_29 : decode cX7_heap 29 = .ok (.aload_n 0, 1) := by decide +kernel
theorem dX7_heap_30 : decode cX7_heap 30 = .ok (.getfield 7, 3) := by decide +kernel
theorem dX7_heap_33 : decode cX7_heap 33 = .ok (.iconst 1, 1) := by decide +kernel
theorem dX7_heap_34 : decode cX7_heap 34 = .ok (.iload_n 1, 1) := by decide +kernel
theorem dX7_heap_35 : decode cX7_heap 35 = .ok (.iadd, 1) := by decide +kernel
theorem dX7_heap_36 : decode cX7_heap 36 = .ok (.iaload, 1) := by decide +kernel
theorem dX7_heap_37 : decode cX7_heap 37 = .ok (.istore_n 3, 1) := by decide +kernel
theorem dX7_heap_38 : decode cX7_heap 38 = .ok (.aload_n 0, 1) := by decide +kernel
theorem dX7_heap_39 : decode cX7_heap 39 = .ok (.getfield 7, 3) := by decide +kernel
theorem dX7_heap_42 : decode cX7_heap 42 = .ok (.iconst 5, 1) := by decide +kernel
theorem dX7_heap_43 : decode cX7_heap 43 = .ok (.iload_n 1, 1) := by decide +kernel
theorem dX7_heap_44 : decode cX7_heap 44 = .ok (.iadd, 1) := by decide +kernel
theorem dX7_heap_45 : decode cX7_heap 45 = .ok (.iaload, 1) := by decide +kernel
theorem dX7_heap_46 : decode cX7_heap 46 = .ok (.istore 4, 2) := by decide +kernel
theorem dX7_heap_48 : decode cX7_heap 48 = .ok (.iload_n 2, 1) := by decide +kernel
theorem dX7_heap_49 : decode cX7_heap 49 = .ok (.tableswitch 40 0 2 #[27, 29, 32], 27) := by decide +kernel
theorem dX7_heap_76 : decode cX7_heap 76 = .ok (.iload_n 3, 1) := by decide +kernel
theorem dX7_heap_77 : decode cX7_heap 77 = .ok (.ireturn, 1) := by decide +kernel
theorem dX7_heap_78 : decode cX7_heap 78 = .ok (.iload 4, 2) := by decide +kernel
theorem dX7_heap_80 : decode cX7_heap 80 = .ok (.ireturn, 1) := by decide +kernel
theorem dX7_heap_81 : decode cX7_heap 81 = .ok (.aload_n 0, 1) := by decide +kernel
theorem dX7_heap_82 : decode cX7_heap 82 = .ok (.iload_n 3, 1) := by decide +kernel
theorem dX7_heap_83 : decode cX7_heap 83 = .ok (.iload 4, 2) := by decide +kernel
theorem dX7_heap_85 : decode cX7_heap 85 = .ok (.invokevirtual 101, 3) := by decide +kernel
theorem dX7_heap_88 : decode cX7_heap 88 = .ok (.ireturn, 1) := by decide +kernel
theorem dX7_heap_89 : decode cX7_heap 89 = .ok (.aload_n 0, 1) := by decide +kernel
theorem dX7_heap_90 : decode cX7_heap 90 = .ok (.iload_n 3, 1) := by decide +kernel
theorem dX7_heap_91 : decode cX7_heap 91 = .ok (.iload 4, 2) := by decide +kernel
theorem dX7_heap_93 : decode cX7_heap 93 = .ok (.invokevirtual 372, 3) := by decide +kernel
theorem dX7_heap_96 : decode cX7_heap 96 = .ok (.ireturn, 1) := by decide +kernel
theorem dX7_nimSum_0 : decode cX7_nimSum 0 = .ok (.aload_n 0, 1) := by decide +kernel
theorem dX7_nimSum_1 : decode cX7_nimSum 1 = .ok (.iconst 0, 1) := by decide +kernel
theorem dX7_nimSum_2 : decode cX7_nimSum 2 = .ok (.putfield 73, 3) := by decide +kernel
theorem dX7_nimSum_5 : decode cX7_nimSum 5 = .ok (.iconst 0, 1) := by decide +kernel
theorem dX7_nimSum_6 : decode cX7_nimSum 6 = .ok (.istore_n 1, 1) := by decide +kernel
theorem dX7_nimSum_7 : decode cX7_nimSum 7 = .ok (.iconst 0, 1) := by decide +kernel
theorem dX7_nimSum_8 : decode cX7_nimSum 8 = .ok (.istore_n 2, 1) := by decide +kernel
theorem dX7_nimSum_9 : decode cX7_nimSum 9 = .ok (.iload_n 2, 1) := by decide +kernel
theorem dX7_nimSum_10 : decode cX7_nimSum 10 = .ok (.aload_n 0, 1) := by decide +kernel
theorem dX7_nimSum_11 : decode cX7_nimSum 11 = .ok (.getfield 7, 3) := by decide +kernel
theorem dX7_nimSum_14 : decode cX7_nimSum 14 = .ok (.iconst 0, 1) := by decide +kernel
theorem dX7_nimSum_15 : decode cX7_nimSum 15 = .ok (.iaload, 1) := by decide +kernel
theorem dX7_nimSum_16 : decode cX7_nimSum 16 = .ok (.if_icmp .ge 32, 3) := by decide +kernel
theorem dX7_nimSum_19 : decode cX7_nimSum 19 = .ok (.iload_n 1, 1) := by decide +kernel
theorem dX7_nimSum_20 : decode cX7_nimSum 20 = .ok (.aload_n 0, 1) := by decide +kernel
theorem dX7_nimSum_21 : decode cX7_nimSum 21 = .ok (.aload_n 0, 1) := by decide +kernel
theorem dX7_nimSum_22 : decode cX7_nimSum 22 = .ok (.getfield 7, 3) := by decide +kernel
theorem dX7_nimSum_25 : decode cX7_nimSum 25 = .ok (.iconst 1, 1) := by decide +kernel
theorem dX7_nimSum_26 : decode cX7_nimSum 26 = .ok (.iload_n 2, 1) := by decide +kernel
theorem dX7_nimSum_27 : decode cX7_nimSum 27 = .ok (.iadd, 1) := by decide +kernel
theorem dX7_nimSum_28 : decode cX7_nimSum 28 = .ok (.iaload, 1) := by decide +kernel
theorem dX7_nimSum_29 : decode cX7_nimSum 29 = .ok (.aload_n 0, 1) := by decide +kernel
theorem dX7_nimSum_30 : decode cX7_nimSum 30 = .ok (.getfield 7, 3) := by decide +kernel
theorem dX7_nimSum_33 : decode cX7_nimSum 33 = .ok (.iconst 5, 1) := by decide +kernel
theorem dX7_nimSum_34 : decode cX7_nimSum 34 = .ok (.iload_n 2, 1) := by decide +kernel
theorem dX7_nimSum_35 : decode cX7_nimSum 35 = .ok (.iadd, 1) := by decide +kernel
theorem dX7_nimSum_36 : decode cX7_nimSum 36 = .ok (.iaload, 1) := by decide +kernel
theorem dX7_nimSum_37 : decode cX7_nimSum 37 = .ok (.invokevirtual 101, 3) := by decide +kernel
theorem dX7_nimSum_40 : decode cX7_nimSum 40 = .ok (.ixor, 1) := by decide +kernel
theorem dX7_nimSum_41 : decode cX7_nimSum 41 = .ok (.istore_n 1, 1) := by decide +kernel
theorem dX7_nimSum_42 : decode cX7_nimSum 42 = .ok (.iinc 2 1, 3) := by decide +kernel
theorem dX7_nimSum_45 : decode cX7_nimSum 45 = .ok (.goto (-36), 3) := by decide +kernel
theorem dX7_nimSum_48 : decode cX7_nimSum 48 = .ok (.iload_n 1, 1) := by decide +kernel
theorem dX7_nimSum_49 : decode cX7_nimSum 49 = .ok (.ireturn, 1) := by decide +kernel
theorem dX7_positionValue_0 : decode cX7_positionValue 0 = .ok (.aload_n 0, 1) := by decide +kernel
theorem dX7_positionValue_1 : decode cX7_positionValue 1 = .ok (.iconst 0, 1) := by decide +kernel
theorem dX7_positionValue_2 : decode cX7_positionValue 2 = .ok (.putfield 73, 3) := by decide +kernel
theorem dX7_positionValue_5 : decode cX7_positionValue 5 = .ok (.aload_n 0, 1) := by decide +kernel
theorem dX7_positionValue_6 : decode cX7_positionValue 6 = .ok (.invokevirtual 357, 3) := by decide +kernel
theorem dX7_positionValue_9 : decode cX7_positionValue 9 = .ok (.aload_n 0, 1) := by decide +kernel
theorem dX7_positionValue_10 : decode cX7_positionValue 10 = .ok (.aload_n 0, 1) := by decide +kernel
theorem dX7_positionValue_11 : decode cX7_positionValue 11 = .ok (.invokevirtual 341, 3) := by decide +kernel
theorem dX7_positionValue_14 : decode cX7_positionValue 14 = .ok (.invokevirtual 295, 3) := by decide +kernel
theorem dX7_positionValue_17 : decode cX7_positionValue 17 = .ok (.ireturn, 1) := by decide +kernel
theorem dX7_isWon_0 : decode cX7_isWon 0 = .ok (.aload_n 0, 1) := by decide +kernel
theorem dX7_isWon_1 : decode cX7_isWon 1 = .ok (.iconst 0, 1) := by decide +kernel
theorem dX7_isWon_2 : decode cX7_isWon 2 = .ok (.putfield 73, 3) := by decide +kernel
theorem dX7_isWon_5 : decode cX7_isWon 5 = .ok (.aload_n 0, 1) := by decide +kernel
theorem dX7_isWon_6 : decode cX7_isWon 6 = .ok (.invokevirtual 357, 3) := by decide +kernel
theorem dX7_isWon_9 : decode cX7_isWon 9 = .ok (.aload_n 0, 1) := by decide +kernel
theorem dX7_isWon_10 : decode cX7_isWon 10 = .ok (.aload_n 0, 1) := by decide +kernel
theorem dX7_isWon_11 : decode cX7_isWon 11 = .ok (.invokevirtual 341, 3) := by decide +kernel
theorem dX7_isWon_14 : decode cX7_isWon 14 = .ok (.invokevirtual 301, 3) := by decide +kernel
theorem dX7_isWon_17 : decode cX7_isWon 17 = .ok (.ireturn, 1) := by decide +kernel
theorem dX7_length_0 : decode cX7_length 0 = .ok (.aload_n 0, 1) := by decide +kernel
theorem dX7_length_1 : decode cX7_length 1 = .ok (.iconst 0, 1) := by decide +kernel
theorem dX7_length_2 : decode cX7_length 2 = .ok (.putfield 73, 3) := by decide +kernel
theorem dX7_length_5 : decode cX7_length 5 = .ok (.aload_n 0, 1) := by decide +kernel
theorem dX7_length_6 : decode cX7_length 6 = .ok (.invokevirtual 357, 3) := by decide +kernel
theorem dX7_length_9 : decode cX7_length 9 = .ok (.aload_n 0, 1) := by decide +kernel
theorem dX7_length_10 : decode cX7_length 10 = .ok (.aload_n 0, 1) := by decide +kernel
theorem dX7_length_11 : decode cX7_length 11 = .ok (.invokevirtual 341, 3) := by decide +kernel
theorem dX7_length_14 : decode cX7_length 14 = .ok (.invokevirtual 298, 3) := by decide +kernel
theorem dX7_length_17 : decode cX7_length 17 = .ok (.ireturn, 1) := by decide +kernel
theorem dX7_moves_0 : decode cX7_moves 0 = .ok (.aload_n 0, 1) := by decide +kernel
theorem dX7_moves_1 : decode cX7_moves 1 = .ok (.iconst 0, 1) := by decide +kernel
theorem dX7_moves_2 : decode cX7_moves 2 = .ok (.putfield 73, 3) := by decide +kernel
theorem dX7_moves_5 : decode cX7_moves 5 = .ok (.aload_n 0, 1) := by decide +kernel
theorem dX7_moves_6 : decode cX7_moves 6 = .ok (.invokevirtual 360, 3) := by decide +kernel
theorem dX7_moves_9 : decode cX7_moves 9 = .ok (.ireturn, 1) := by decide +kernel
theorem dX7_move_0 : decode cX7_move 0 = .ok (.aload_n 0, 1) := by decide +kernel
theorem dX7_move_1 : decode cX7_move 1 = .ok (.iconst 0, 1) := by decide +kernel
theorem dX7_move_2 : decode cX7_move 2 = .ok (.putfield 73, 3) := by decide +kernel
theorem dX7_move_5 : decode cX7_move 5 = .ok (.aload_n 0, 1) := by decide +kernel
theorem dX7_move_6 : decode cX7_move 6 = .ok (.iload_n 1, 1) := by decide +kernel
theorem dX7_move_7 : decode cX7_move 7 = .ok (.ifCond .lt 15, 3) := by decide +kernel
theorem dX7_move_10 : decode cX7_move 10 = .ok (.aload_n 0, 1) := by decide +kernel
theorem dX7_move_11 : decode cX7_move 11 = .ok (.iload_n 1, 1) := by decide +kernel
theorem dX7_move_12 : decode cX7_move 12 = .ok (.invokevirtual 354, 3) := by decide +kernel
theorem dX7_move_15 : decode cX7_move 15 = .ok (.ifCond .eq 7, 3) := by decide +kernel
theorem dX7_move_18 : decode cX7_move 18 = .ok (.iconst 1, 1) := by decide +kernel
theorem dX7_move_19 : decode cX7_move 19 = .ok (.goto 4, 3) := by decide +kernel
theorem dX7_move_22 : decode cX7_move 22 = .ok (.iconst 0, 1) := by decide +kernel
theorem dX7_move_23 : decode cX7_move 23 = .ok (.iconst 1, 1) := by decide +kernel
theorem dX7_move_24 : decode cX7_move 24 = .ok (.invokevirtual 256, 3) := by decide +kernel
theorem dX7_move_27 : decode cX7_move 27 = .ok (.ifCond .eq 18, 3) := by decide +kernel
theorem dX7_move_30 : decode cX7_move 30 = .ok (.aload_n 0, 1) := by decide +kernel
theorem dX7_move_31 : decode cX7_move 31 = .ok (.iload_n 2, 1) := by decide +kernel
theorem dX7_move_32 : decode cX7_move 32 = .ok (.iconst 0, 1) := by decide +kernel
theorem dX7_move_33 : decode cX7_move 33 = .ok (.bipush 6, 2) := by decide +kernel
theorem dX7_move_35 : decode cX7_move 35 = .ok (.invokestatic 77, 3) := by decide +kernel
theorem dX7_move_38 : decode cX7_move 38 = .ok (.iconst 2, 1) := by decide +kernel
theorem dX7_move_39 : decode cX7_move 39 = .ok (.invokevirtual 256, 3) := by decide +kernel
theorem dX7_move_42 : decode cX7_move 42 = .ok (.ifCond .ne 5, 3) := by decide +kernel
theorem dX7_move_45 : decode cX7_move 45 = .ok (.iconst 0, 1) := by decide +kernel
theorem dX7_move_46 : decode cX7_move 46 = .ok (.ireturn, 1) := by decide +kernel
theorem dX7_move_47 : decode cX7_move 47 = .ok (.aload_n 0, 1) := by decide +kernel
theorem dX7_move_48 : decode cX7_move 48 = .ok (.invokevirtual 357, 3) := by decide +kernel
theorem dX7_move_51 : decode cX7_move 51 = .ok (.iload_n 2, 1) := by decide +kernel
theorem dX7_move_52 : decode cX7_move 52 = .ok (.tableswitch 86 0 5 #[40, 45, 50, 55, 60, 69], 40) := by decide +kernel
theorem dX7_move_92 : decode cX7_move 92 = .ok (.aload_n 0, 1) := by decide +kernel
theorem dX7_move_93 : decode cX7_move 93 = .ok (.getfield 329, 3) := by decide +kernel
theorem dX7_move_96 : decode cX7_move 96 = .ok (.ireturn, 1) := by decide +kernel
theorem dX7_move_97 : decode cX7_move 97 = .ok (.aload_n 0, 1) := by decide +kernel
theorem dX7_move_98 : decode cX7_move 98 = .ok (.getfield 332, 3) := by decide +kernel
theorem dX7_move_101 : decode cX7_move 101 = .ok (.ireturn, 1) := by decide +kernel
theorem dX7_move_102 : decode cX7_move 102 = .ok (.aload_n 0, 1) := by decide +kernel
theorem dX7_move_103 : decode cX7_move 103 = .ok (.getfield 335, 3) := by decide +kernel
theorem dX7_move_106 : decode cX7_move 106 = .ok (.ireturn, 1) := by decide +kernel
theorem dX7_move_107 : decode cX7_move 107 = .ok (.aload_n 0, 1) := by decide +kernel
theorem dX7_move_108 : decode cX7_move 108 = .ok (.getfield 338, 3) := by decide +kernel
theorem dX7_move_111 : decode cX7_move 111 = .ok (.ireturn, 1) := by decide +kernel
theorem dX7_move_112 : decode cX7_move 112 = .ok (.aload_n 0, 1) := by decide +kernel
theorem dX7_move_113 : decode cX7_move 113 = .ok (.aload_n 0, 1) := by decide +kernel
theorem dX7_move_114 : decode cX7_move 114 = .ok (.getfield 344, 3) := by decide +kernel
theorem dX7_move_117 : decode cX7_move 117 = .ok (.invokevirtual 295, 3) := by decide +kernel
theorem dX7_move_120 : decode cX7_move 120 = .ok (.ireturn, 1) := by decide +kernel
theorem dX7_move_121 : decode cX7_move 121 = .ok (.aload_n 0, 1) := by decide +kernel
theorem dX7_move_122 : decode cX7_move 122 = .ok (.aload_n 0, 1) := by decide +kernel
theorem dX7_move_123 : decode cX7_move 123 = .ok (.getfield 344, 3) := by decide +kernel
theorem dX7_move_126 : decode cX7_move 126 = .ok (.invokevirtual 301, 3) := by decide +kernel
theorem dX7_move_129 : decode cX7_move 129 = .ok (.ifCond .eq 7, 3) := by decide +kernel
theorem dX7_move_132 : decode cX7_move 132 = .ok (.iconst 0, 1) := by decide +kernel
theorem dX7_move_133 : decode cX7_move 133 = .ok (.goto 4, 3) := by decide +kernel
theorem dX7_move_136 : decode cX7_move 136 = .ok (.iconst 1, 1) := by decide +kernel
theorem dX7_move_137 : decode cX7_move 137 = .ok (.ireturn, 1) := by decide +kernel
theorem dX7_move_138 : decode cX7_move 138 = .ok (.aload_n 0, 1) := by decide +kernel
theorem dX7_move_139 : decode cX7_move 139 = .ok (.aload_n 0, 1) := by decide +kernel
theorem dX7_move_140 : decode cX7_move 140 = .ok (.getfield 344, 3) := by decide +kernel
theorem dX7_move_143 : decode cX7_move 143 = .ok (.invokevirtual 298, 3) := by decide +kernel
theorem dX7_move_146 : decode cX7_move 146 = .ok (.ireturn, 1) := by decide +kernel
theorem dX7_winning_0 : decode cX7_winning 0 = .ok (.aload_n 0, 1) := by decide +kernel
theorem dX7_winning_1 : decode cX7_winning 1 = .ok (.iconst 0, 1) := by decide +kernel
theorem dX7_winning_2 : decode cX7_winning 2 = .ok (.putfield 73, 3) := by decide +kernel
theorem dX7_winning_5 : decode cX7_winning 5 = .ok (.aload_n 0, 1) := by decide +kernel
theorem dX7_winning_6 : decode cX7_winning 6 = .ok (.invokevirtual 357, 3) := by decide +kernel
theorem dX7_winning_9 : decode cX7_winning 9 = .ok (.iconst 0, 1) := by decide +kernel
theorem dX7_winning_10 : decode cX7_winning 10 = .ok (.istore_n 1, 1) := by decide +kernel
theorem dX7_winning_11 : decode cX7_winning 11 = .ok (.iconst 0, 1) := by decide +kernel
theorem dX7_winning_12 : decode cX7_winning 12 = .ok (.istore_n 2, 1) := by decide +kernel
theorem dX7_winning_13 : decode cX7_winning 13 = .ok (.aload_n 0, 1) := by decide +kernel
theorem dX7_winning_14 : decode cX7_winning 14 = .ok (.iload_n 2, 1) := by decide +kernel
theorem dX7_winning_15 : decode cX7_winning 15 = .ok (.invokevirtual 354, 3) := by decide +kernel
theorem dX7_winning_18 : decode cX7_winning 18 = .ok (.ifCond .eq 28, 3) := by decide +kernel
theorem dX7_winning_21 : decode cX7_winning 21 = .ok (.iload_n 1, 1) := by decide +kernel
theorem dX7_winning_22 : decode cX7_winning 22 = .ok (.aload_n 0, 1) := by decide +kernel
theorem dX7_winning_23 : decode cX7_winning 23 = .ok (.aload_n 0, 1) := by decide +kernel
theorem dX7_winning_24 : decode cX7_winning 24 = .ok (.getfield 344, 3) := by decide +kernel
theorem dX7_winning_27 : decode cX7_winning 27 = .ok (.invokevirtual 301, 3) := by decide +kernel
theorem dX7_winning_30 : decode cX7_winning 30 = .ok (.ifCond .eq 7, 3) := by decide +kernel
theorem dX7_winning_33 : decode cX7_winning 33 = .ok (.iconst 0, 1) := by decide +kernel
theorem dX7_winning_34 : decode cX7_winning 34 = .ok (.goto 4, 3) := by decide +kernel
theorem dX7_winning_37 : decode cX7_winning 37 = .ok (.iconst 1, 1) := by decide +kernel
theorem dX7_winning_38 : decode cX7_winning 38 = .ok (.iadd, 1) := by decide +kernel
theorem dX7_winning_39 : decode cX7_winning 39 = .ok (.istore_n 1, 1) := by decide +kernel
theorem dX7_winning_40 : decode cX7_winning 40 = .ok (.iinc 2 1, 3) := by decide +kernel
theorem dX7_winning_43 : decode cX7_winning 43 = .ok (.goto (-30), 3) := by decide +kernel
theorem dX7_winning_46 : decode cX7_winning 46 = .ok (.iload_n 1, 1) := by decide +kernel
theorem dX7_winning_47 : decode cX7_winning 47 = .ok (.ireturn, 1) := by decide +kernel
theorem dX7_best_0 : decode cX7_best 0 = .ok (.aload_n 0, 1) := by decide +kernel
theorem dX7_best_1 : decode cX7_best 1 = .ok (.iconst 0, 1) := by decide +kernel
theorem dX7_best_2 : decode cX7_best 2 = .ok (.putfield 73, 3) := by decide +kernel
theorem dX7_best_5 : decode cX7_best 5 = .ok (.aload_n 0, 1) := by decide +kernel
theorem dX7_best_6 : decode cX7_best 6 = .ok (.invokevirtual 381, 3) := by decide +kernel
theorem dX7_best_9 : decode cX7_best 9 = .ok (.ireturn, 1) := by decide +kernel
theorem dX7_lostWith_0 : decode cX7_lostWith 0 = .ok (.aload_n 0, 1) := by decide +kernel
theorem dX7_lostWith_1 : decode cX7_lostWith 1 = .ok (.iconst 0, 1) := by decide +kernel
theorem dX7_lostWith_2 : decode cX7_lostWith 2 = .ok (.putfield 73, 3) := by decide +kernel
theorem dX7_lostWith_5 : decode cX7_lostWith 5 = .ok (.aload_n 0, 1) := by decide +kernel
theorem dX7_lostWith_6 : decode cX7_lostWith 6 = .ok (.iload_n 1, 1) := by decide +kernel
theorem dX7_lostWith_7 : decode cX7_lostWith 7 = .ok (.invokevirtual 378, 3) := by decide +kernel
theorem dX7_lostWith_10 : decode cX7_lostWith 10 = .ok (.ifCond .ne 5, 3) := by decide +kernel
theorem dX7_lostWith_13 : decode cX7_lostWith 13 = .ok (.iconst 0, 1) := by decide +kernel
theorem dX7_lostWith_14 : decode cX7_lostWith 14 = .ok (.ireturn, 1) := by decide +kernel
theorem dX7_lostWith_15 : decode cX7_lostWith 15 = .ok (.aload_n 0, 1) := by decide +kernel
theorem dX7_lostWith_16 : decode cX7_lostWith 16 = .ok (.invokevirtual 357, 3) := by decide +kernel
theorem dX7_lostWith_19 : decode cX7_lostWith 19 = .ok (.aload_n 0, 1) := by decide +kernel
theorem dX7_lostWith_20 : decode cX7_lostWith 20 = .ok (.invokevirtual 341, 3) := by decide +kernel
theorem dX7_lostWith_23 : decode cX7_lostWith 23 = .ok (.aload_n 0, 1) := by decide +kernel
theorem dX7_lostWith_24 : decode cX7_lostWith 24 = .ok (.getfield 7, 3) := by decide +kernel
theorem dX7_lostWith_27 : decode cX7_lostWith 27 = .ok (.iconst 5, 1) := by decide +kernel
theorem dX7_lostWith_28 : decode cX7_lostWith 28 = .ok (.iload_n 1, 1) := by decide +kernel
theorem dX7_lostWith_29 : decode cX7_lostWith 29 = .ok (.iadd, 1) := by decide +kernel
theorem dX7_lostWith_30 : decode cX7_lostWith 30 = .ok (.iaload, 1) := by decide +kernel
theorem dX7_lostWith_31 : decode cX7_lostWith 31 = .ok (.iload_n 1, 1) := by decide +kernel
theorem dX7_lostWith_32 : decode cX7_lostWith 32 = .ok (.invokestatic 316, 3) := by decide +kernel
theorem dX7_lostWith_35 : decode cX7_lostWith 35 = .ok (.imul, 1) := by decide +kernel
theorem dX7_lostWith_36 : decode cX7_lostWith 36 = .ok (.isub, 1) := by decide +kernel
theorem dX7_lostWith_37 : decode cX7_lostWith 37 = .ok (.istore_n 2, 1) := by decide +kernel
theorem dX7_lostWith_38 : decode cX7_lostWith 38 = .ok (.iconst 0, 1) := by decide +kernel
theorem dX7_lostWith_39 : decode cX7_lostWith 39 = .ok (.istore_n 3, 1) := by decide +kernel
theorem dX7_lostWith_40 : decode cX7_lostWith 40 = .ok (.iconst 0, 1) := by decide +kernel
theorem dX7_lostWith_41 : decode cX7_lostWith 41 = .ok (.istore 4, 2) := by decide +kernel
theorem dX7_lostWith_43 : decode cX7_lostWith 43 = .ok (.iload 4, 2) := by decide +kernel
theorem dX7_lostWith_45 : decode cX7_lostWith 45 = .ok (.bipush 15, 2) := by decide +kernel
theorem dX7_lostWith_47 : decode cX7_lostWith 47 = .ok (.if_icmp .gt 36, 3) := by decide +kernel
theorem dX7_lostWith_50 : decode cX7_lostWith 50 = .ok (.iload_n 3, 1) := by decide +kernel
theorem dX7_lostWith_51 : decode cX7_lostWith 51 = .ok (.aload_n 0, 1) := by decide +kernel
theorem dX7_lostWith_52 : decode cX7_lostWith 52 = .ok (.iload_n 2, 1) := by decide +kernel
theorem dX7_lostWith_53 : decode cX7_lostWith 53 = .ok (.iload 4, 2) := by decide +kernel
theorem dX7_lostWith_55 : decode cX7_lostWith 55 = .ok (.iload_n 1, 1) := by decide +kernel
theorem dX7_lostWith_56 : decode cX7_lostWith 56 = .ok (.invokestatic 316, 3) := by decide +kernel
theorem dX7_lostWith_59 : decode cX7_lostWith 59 = .ok (.imul, 1) := by decide +kernel
theorem dX7_lostWith_60 : decode cX7_lostWith 60 = .ok (.iadd, 1) := by decide +kernel
theorem dX7_lostWith_61 : decode cX7_lostWith 61 = .ok (.invokevirtual 301, 3) := by decide +kernel
theorem dX7_lostWith_64 : decode cX7_lostWith 64 = .ok (.ifCond .eq 7, 3) := by decide +kernel
theorem dX7_lostWith_67 : decode cX7_lostWith 67 = .ok (.iconst 0, 1) := by decide +kernel
theorem dX7_lostWith_68 : decode cX7_lostWith 68 = .ok (.goto 7, 3) := by decide +kernel
theorem dX7_lostWith_71 : decode cX7_lostWith 71 = .ok (.iconst 1, 1) := by decide +kernel
theorem dX7_lostWith_72 : decode cX7_lostWith 72 = .ok (.iload 4, 2) := by decide +kernel
theorem dX7_lostWith_74 : decode cX7_lostWith 74 = .ok (.ishl, 1) := by decide +kernel
theorem dX7_lostWith_75 : decode cX7_lostWith 75 = .ok (.ior, 1) := by decide +kernel
theorem dX7_lostWith_76 : decode cX7_lostWith 76 = .ok (.istore_n 3, 1) := by decide +kernel
theorem dX7_lostWith_77 : decode cX7_lostWith 77 = .ok (.iinc 4 1, 3) := by decide +kernel
theorem dX7_lostWith_80 : decode cX7_lostWith 80 = .ok (.goto (-37), 3) := by decide +kernel
theorem dX7_lostWith_83 : decode cX7_lostWith 83 = .ok (.iload_n 3, 1) := by decide +kernel
theorem dX7_lostWith_84 : decode cX7_lostWith 84 = .ok (.ireturn, 1) := by decide +kernel
theorem dX7_isBelow_0 : decode cX7_isBelow 0 = .ok (.iconst 0, 1) := by decide +kernel
theorem dX7_isBelow_1 : decode cX7_isBelow 1 = .ok (.istore_n 2, 1) := by decide +kernel
theorem dX7_isBelow_2 : decode cX7_isBelow 2 = .ok (.iload_n 2, 1) := by decide +kernel
theorem dX7_isBelow_3 : decode cX7_isBelow 3 = .ok (.aload_n 0, 1) := by decide +kernel
theorem dX7_isBelow_4 : decode cX7_isBelow 4 = .ok (.getfield 7, 3) := by decide +kernel
theorem dX7_isBelow_7 : decode cX7_isBelow 7 = .ok (.iconst 0, 1) := by decide +kernel
theorem dX7_isBelow_8 : decode cX7_isBelow 8 = .ok (.iaload, 1) := by decide +kernel
theorem dX7_isBelow_9 : decode cX7_isBelow 9 = .ok (.if_icmp .ge 27, 3) := by decide +kernel
theorem dX7_isBelow_12 : decode cX7_isBelow 12 = .ok (.iload_n 1, 1) := by decide +kernel
theorem dX7_isBelow_13 : decode cX7_isBelow 13 = .ok (.iload_n 2, 1) := by decide +kernel
theorem dX7_isBelow_14 : decode cX7_isBelow 14 = .ok (.invokestatic 310, 3) := by decide +kernel
theorem dX7_isBelow_17 : decode cX7_isBelow 17 = .ok (.aload_n 0, 1) := by decide +kernel
theorem dX7_isBelow_18 : decode cX7_isBelow 18 = .ok (.getfield 7, 3) := by decide +kernel
theorem dX7_isBelow_21 : decode cX7_isBelow 21 = .ok (.iconst 5, 1) := by decide +kernel
theorem dX7_isBelow_22 : decode cX7_isBelow 22 = .ok (.iload_n 2, 1) := by decide +kernel
theorem dX7_isBelow_23 : decode cX7_isBelow 23 = .ok (.iadd, 1) := by decide +kernel
theorem dX7_isBelow_24 : decode cX7_isBelow 24 = .ok (.iaload, 1) := by decide +kernel
theorem dX7_isBelow_25 : decode cX7_isBelow 25 = .ok (.if_icmp .le 5, 3) := by decide +kernel
theorem dX7_isBelow_28 : decode cX7_isBelow 28 = .ok (.iconst 0, 1) := by decide +kernel
theorem dX7_isBelow_29 : decode cX7_isBelow 29 = .ok (.ireturn, 1) := by decide +kernel
theorem dX7_isBelow_30 : decode cX7_isBelow 30 = .ok (.iinc 2 1, 3) := by decide +kernel
theorem dX7_isBelow_33 : decode cX7_isBelow 33 = .ok (.goto (-31), 3) := by decide +kernel
theorem dX7_isBelow_36 : decode cX7_isBelow 36 = .ok (.iconst 1, 1) := by decide +kernel
theorem dX7_isBelow_37 : decode cX7_isBelow 37 = .ok (.ireturn, 1) := by decide +kernel
theorem dX7_lostBelow_0 : decode cX7_lostBelow 0 = .ok (.aload_n 0, 1) := by decide +kernel
theorem dX7_lostBelow_1 : decode cX7_lostBelow 1 = .ok (.iconst 0, 1) := by decide +kernel
theorem dX7_lostBelow_2 : decode cX7_lostBelow 2 = .ok (.putfield 73, 3) := by decide +kernel
theorem dX7_lostBelow_5 : decode cX7_lostBelow 5 = .ok (.aload_n 0, 1) := by decide +kernel
theorem dX7_lostBelow_6 : decode cX7_lostBelow 6 = .ok (.invokevirtual 357, 3) := by decide +kernel
theorem dX7_lostBelow_9 : decode cX7_lostBelow 9 = .ok (.iconst 0, 1) := by decide +kernel
theorem dX7_lostBelow_10 : decode cX7_lostBelow 10 = .ok (.istore_n 1, 1) := by decide +kernel
theorem dX7_lostBelow_11 : decode cX7_lostBelow 11 = .ok (.iconst 0, 1) := by decide +kernel
theorem dX7_lostBelow_12 : decode cX7_lostBelow 12 = .ok (.istore_n 2, 1) := by decide +kernel
theorem dX7_lostBelow_13 : decode cX7_lostBelow 13 = .ok (.iload_n 2, 1) := by decide +kernel
theorem dX7_lostBelow_14 : decode cX7_lostBelow 14 = .ok (.aload_n 0, 1) := by decide +kernel
theorem dX7_lostBelow_15 : decode cX7_lostBelow 15 = .ok (.invokevirtual 286, 3) := by decide +kernel
theorem dX7_lostBelow_18 : decode cX7_lostBelow 18 = .ok (.if_icmp .ge 46, 3) := by decide +kernel
theorem dX7_lostBelow_21 : decode cX7_lostBelow 21 = .ok (.iload_n 1, 1) := by decide +kernel
theorem dX7_lostBelow_22 : decode cX7_lostBelow 22 = .ok (.aload_n 0, 1) := by decide +kernel
theorem dX7_lostBelow_23 : decode cX7_lostBelow 23 = .ok (.iload_n 2, 1) := by decide +kernel
theorem dX7_lostBelow_24 : decode cX7_lostBelow 24 = .ok (.invokevirtual 384, 3) := by decide +kernel
theorem dX7_lostBelow_27 : decode cX7_lostBelow 27 = .ok (.ifCond .eq 28, 3) := by decide +kernel
theorem dX7_lostBelow_30 : decode cX7_lostBelow 30 = .ok (.aload_n 0, 1) := by decide +kernel
theorem dX7_lostBelow_31 : decode cX7_lostBelow 31 = .ok (.aload_n 0, 1) := by decide +kernel
theorem dX7_lostBelow_32 : decode cX7_lostBelow 32 = .ok (.invokevirtual 286, 3) := by decide +kernel
theorem dX7_lostBelow_35 : decode cX7_lostBelow 35 = .ok (.aload_n 0, 1) := by decide +kernel
theorem dX7_lostBelow_36 : decode cX7_lostBelow 36 = .ok (.getfield 7, 3) := by decide +kernel
theorem dX7_lostBelow_39 : decode cX7_lostBelow 39 = .ok (.bipush 9, 2) := by decide +kernel
theorem dX7_lostBelow_41 : decode cX7_lostBelow 41 = .ok (.iaload, 1) := by decide +kernel
theorem dX7_lostBelow_42 : decode cX7_lostBelow 42 = .ok (.imul, 1) := by decide +kernel
theorem dX7_lostBelow_43 : decode cX7_lostBelow 43 = .ok (.iload_n 2, 1) := by decide +kernel
theorem dX7_lostBelow_44 : decode cX7_lostBelow 44 = .ok (.iadd, 1) := by decide +kernel
theorem dX7_lostBelow_45 : decode cX7_lostBelow 45 = .ok (.invokevirtual 301, 3) := by decide +kernel
theorem dX7_lostBelow_48 : decode cX7_lostBelow 48 = .ok (.ifCond .ne 7, 3) := by decide +kernel
theorem dX7_lostBelow_51 : decode cX7_lostBelow 51 = .ok (.iconst 1, 1) := by decide +kernel
theorem dX7_lostBelow_52 : decode cX7_lostBelow 52 = .ok (.goto 4, 3) := by decide +kernel
theorem dX7_lostBelow_55 : decode cX7_lostBelow 55 = .ok (.iconst 0, 1) := by decide +kernel
theorem dX7_lostBelow_56 : decode cX7_lostBelow 56 = .ok (.iadd, 1) := by decide +kernel
theorem dX7_lostBelow_57 : decode cX7_lostBelow 57 = .ok (.istore_n 1, 1) := by decide +kernel
theorem dX7_lostBelow_58 : decode cX7_lostBelow 58 = .ok (.iinc 2 1, 3) := by decide +kernel
theorem dX7_lostBelow_61 : decode cX7_lostBelow 61 = .ok (.goto (-48), 3) := by decide +kernel
theorem dX7_lostBelow_64 : decode cX7_lostBelow 64 = .ok (.iload_n 1, 1) := by decide +kernel
theorem dX7_lostBelow_65 : decode cX7_lostBelow 65 = .ok (.ireturn, 1) := by decide +kernel
theorem dX7_played_0 : decode cX7_played 0 = .ok (.aload_n 0, 1) := by decide +kernel
theorem dX7_played_1 : decode cX7_played 1 = .ok (.iconst 0, 1) := by decide +kernel
theorem dX7_played_2 : decode cX7_played 2 = .ok (.putfield 73, 3) := by decide +kernel
theorem dX7_played_5 : decode cX7_played 5 = .ok (.aload_n 0, 1) := by decide +kernel
theorem dX7_played_6 : decode cX7_played 6 = .ok (.iload_n 1, 1) := by decide +kernel
theorem dX7_played_7 : decode cX7_played 7 = .ok (.iconst 0, 1) := by decide +kernel
theorem dX7_played_8 : decode cX7_played 8 = .ok (.aload_n 0, 1) := by decide +kernel
theorem dX7_played_9 : decode cX7_played 9 = .ok (.getfield 7, 3) := by decide +kernel
theorem dX7_played_12 : decode cX7_played 12 = .ok (.bipush 11, 2) := by decide +kernel
theorem dX7_played_14 : decode cX7_played 14 = .ok (.iaload, 1) := by decide +kernel
theorem dX7_played_15 : decode cX7_played 15 = .ok (.iconst 1, 1) := by decide +kernel
theorem dX7_played_16 : decode cX7_played 16 = .ok (.isub, 1) := by decide +kernel
theorem dX7_played_17 : decode cX7_played 17 = .ok (.invokestatic 77, 3) := by decide +kernel
theorem dX7_played_20 : decode cX7_played 20 = .ok (.iconst 1, 1) := by decide +kernel
theorem dX7_played_21 : decode cX7_played 21 = .ok (.invokevirtual 256, 3) := by decide +kernel
theorem dX7_played_24 : decode cX7_played 24 = .ok (.ifCond .eq 33, 3) := by decide +kernel
theorem dX7_played_27 : decode cX7_played 27 = .ok (.aload_n 0, 1) := by decide +kernel
theorem dX7_played_28 : decode cX7_played 28 = .ok (.iload_n 2, 1) := by decide +kernel
theorem dX7_played_29 : decode cX7_played 29 = .ok (.iconst 0, 1) := by decide +kernel
theorem dX7_played_30 : decode cX7_played 30 = .ok (.iconst 3, 1) := by decide +kernel
theorem dX7_played_31 : decode cX7_played 31 = .ok (.invokestatic 77, 3) := by decide +kernel
theorem dX7_played_34 : decode cX7_played 34 = .ok (.iconst 2, 1) := by decide +kernel
theorem dX7_played_35 : decode cX7_played 35 = .ok (.invokevirtual 256, 3) := by decide +kernel
theorem dX7_played_38 : decode cX7_played 38 = .ok (.ifCond .eq 19, 3) := by decide +kernel
theorem dX7_played_41 : decode cX7_played 41 = .ok (.aload_n 0, 1) := by decide +kernel
theorem dX7_played_42 : decode cX7_played 42 = .ok (.getfield 7, 3) := by decide +kernel
theorem dX7_played_45 : decode cX7_played 45 = .ok (.bipush 12, 2) := by decide +kernel
theorem dX7_played_47 : decode cX7_played 47 = .ok (.iconst 4, 1) := by decide +kernel
theorem dX7_played_48 : decode cX7_played 48 = .ok (.iload_n 1, 1) := by decide +kernel
theorem dX7_played_49 : decode cX7_played 49 = .ok (.imul, 1) := by decide +kernel
theorem dX7_played_50 : decode cX7_played 50 = .ok (.iadd, 1) := by decide +kernel
theorem dX7_played_51 : decode cX7_played 51 = .ok (.iload_n 2, 1) := by decide +kernel
theorem dX7_played_52 : decode cX7_played 52 = .ok (.iadd, 1) := by decide +kernel
theorem dX7_played_53 : decode cX7_played 53 = .ok (.iaload, 1) := by decide +kernel
theorem dX7_played_54 : decode cX7_played 54 = .ok (.goto 4, 3) := by decide +kernel
theorem dX7_played_57 : decode cX7_played 57 = .ok (.iconst 0, 1) := by decide +kernel
theorem dX7_played_58 : decode cX7_played 58 = .ok (.ireturn, 1) := by decide +kernel
theorem dX7_keeps_0 : decode cX7_keeps 0 = .ok (.aload_n 0, 1) := by decide +kernel
theorem dX7_keeps_1 : decode cX7_keeps 1 = .ok (.getfield 271, 3) := by decide +kernel
theorem dX7_keeps_4 : decode cX7_keeps 4 = .ok (.bipush 10, 2) := by decide +kernel
theorem dX7_keeps_6 : decode cX7_keeps 6 = .ok (.if_icmp .ne 44, 3) := by decide +kernel
theorem dX7_keeps_9 : decode cX7_keeps 9 = .ok (.iconst 0, 1) := by decide +kernel
theorem dX7_keeps_10 : decode cX7_keeps 10 = .ok (.istore_n 1, 1) := by decide +kernel
theorem dX7_keeps_11 : decode cX7_keeps 11 = .ok (.iload_n 1, 1) := by decide +kernel
theorem dX7_keeps_12 : decode cX7_keeps 12 = .ok (.sipush 1548, 3) := by decide +kernel
theorem dX7_keeps_15 : decode cX7_keeps 15 = .ok (.if_icmp .ge 25, 3) := by decide +kernel
theorem dX7_keeps_18 : decode cX7_keeps 18 = .ok (.aload_n 0, 1) := by decide +kernel
theorem dX7_keeps_19 : decode cX7_keeps 19 = .ok (.getfield 16, 3) := by decide +kernel
theorem dX7_keeps_22 : decode cX7_keeps 22 = .ok (.iload_n 1, 1) := by decide +kernel
theorem dX7_keeps_23 : decode cX7_keeps 23 = .ok (.aload_n 0, 1) := by decide +kernel
theorem dX7_keeps_24 : decode cX7_keeps 24 = .ok (.getfield 16, 3) := by decide +kernel
theorem dX7_keeps_27 : decode cX7_keeps 27 = .ok (.iload_n 1, 1) := by decide +kernel
theorem dX7_keeps_28 : decode cX7_keeps 28 = .ok (.sipush 172, 3) := by decide +kernel
theorem dX7_keeps_31 : decode cX7_keeps 31 = .ok (.iadd, 1) := by decide +kernel
theorem dX7_keeps_32 : decode cX7_keeps 32 = .ok (.iaload, 1) := by decide +kernel
theorem dX7_keeps_33 : decode cX7_keeps 33 = .ok (.iastore, 1) := by decide +kernel
theorem dX7_keeps_34 : decode cX7_keeps 34 = .ok (.iinc 1 1, 3) := by decide +kernel
theorem dX7_keeps_37 : decode cX7_keeps 37 = .ok (.goto (-26), 3) := by decide +kernel
theorem dX7_keeps_40 : decode cX7_keeps 40 = .ok (.aload_n 0, 1) := by decide +kernel
theorem dX7_keeps_41 : decode cX7_keeps 41 = .ok (.dup, 1) := by decide +kernel
theorem dX7_keeps_42 : decode cX7_keeps 42 = .ok (.getfield 271, 3) := by decide +kernel
theorem dX7_keeps_45 : decode cX7_keeps 45 = .ok (.iconst 1, 1) := by decide +kernel
theorem dX7_keeps_46 : decode cX7_keeps 46 = .ok (.isub, 1) := by decide +kernel
theorem dX7_keeps_47 : decode cX7_keeps 47 = .ok (.putfield 271, 3) := by decide +kernel
theorem dX7_keeps_50 : decode cX7_keeps 50 = .ok (.aload_n 0, 1) := by decide +kernel
theorem dX7_keeps_51 : decode cX7_keeps 51 = .ok (.getfield 7, 3) := by decide +kernel
theorem dX7_keeps_54 : decode cX7_keeps 54 = .ok (.iconst 0, 1) := by decide +kernel
theorem dX7_keeps_55 : decode cX7_keeps 55 = .ok (.aload_n 0, 1) := by decide +kernel
theorem dX7_keeps_56 : decode cX7_keeps 56 = .ok (.getfield 16, 3) := by decide +kernel
theorem dX7_keeps_59 : decode cX7_keeps 59 = .ok (.sipush 172, 3) := by decide +kernel
theorem dX7_keeps_62 : decode cX7_keeps 62 = .ok (.aload_n 0, 1) := by decide +kernel
theorem dX7_keeps_63 : decode cX7_keeps 63 = .ok (.getfield 271, 3) := by decide +kernel
theorem dX7_keeps_66 : decode cX7_keeps 66 = .ok (.imul, 1) := by decide +kernel
theorem dX7_keeps_67 : decode cX7_keeps 67 = .ok (.sipush 172, 3) := by decide +kernel
theorem dX7_keeps_70 : decode cX7_keeps 70 = .ok (.invokestatic 252, 3) := by decide +kernel
theorem dX7_keeps_73 : decode cX7_keeps 73 = .ok (.aload_n 0, 1) := by decide +kernel
theorem dX7_keeps_74 : decode cX7_keeps 74 = .ok (.dup, 1) := by decide +kernel
theorem dX7_keeps_75 : decode cX7_keeps 75 = .ok (.getfield 271, 3) := by decide +kernel
theorem dX7_keeps_78 : decode cX7_keeps 78 = .ok (.iconst 1, 1) := by decide +kernel
theorem dX7_keeps_79 : decode cX7_keeps 79 = .ok (.iadd, 1) := by decide +kernel
theorem dX7_keeps_80 : decode cX7_keeps 80 = .ok (.putfield 271, 3) := by decide +kernel
theorem dX7_keeps_83 : decode cX7_keeps 83 = .ok (.return_, 1) := by decide +kernel
theorem dX7_plays_0 : decode cX7_plays 0 = .ok (.aload_n 0, 1) := by decide +kernel
theorem dX7_plays_1 : decode cX7_plays 1 = .ok (.invokevirtual 387, 3) := by decide +kernel
theorem dX7_plays_4 : decode cX7_plays 4 = .ok (.bipush 12, 2) := by decide +kernel
theorem dX7_plays_6 : decode cX7_plays 6 = .ok (.iconst 4, 1) := by decide +kernel
theorem dX7_plays_7 : decode cX7_plays 7 = .ok (.aload_n 0, 1) := by decide +kernel
theorem dX7_plays_8 : decode cX7_plays 8 = .ok (.getfield 7, 3) := by decide +kernel
theorem dX7_plays_11 : decode cX7_plays 11 = .ok (.bipush 11, 2) := by decide +kernel
theorem dX7_plays_13 : decode cX7_plays 13 = .ok (.iaload, 1) := by decide +kernel
theorem dX7_plays_14 : decode cX7_plays 14 = .ok (.imul, 1) := by decide +kernel
theorem dX7_plays_15 : decode cX7_plays 15 = .ok (.iadd, 1) := by decide +kernel
theorem dX7_plays_16 : decode cX7_plays 16 = .ok (.istore 5, 2) := by decide +kernel
theorem dX7_plays_18 : decode cX7_plays 18 = .ok (.aload_n 0, 1) := by decide +kernel
theorem dX7_plays_19 : decode cX7_plays 19 = .ok (.getfield 7, 3) := by decide +kernel
theorem dX7_plays_22 : decode cX7_plays 22 = .ok (.iload 5, 2) := by decide +kernel
theorem dX7_plays_24 : decode cX7_plays 24 = .ok (.iload_n 1, 1) := by decide +kernel
theorem dX7_plays_25 : decode cX7_plays 25 = .ok (.iastore, 1) := by decide +kernel
theorem dX7_plays_26 : decode cX7_plays 26 = .ok (.aload_n 0, 1) := by decide +kernel
theorem dX7_plays_27 : decode cX7_plays 27 = .ok (.getfield 7, 3) := by decide +kernel
theorem dX7_plays_30 : decode cX7_plays 30 = .ok (.iload 5, 2) := by decide +kernel
theorem dX7_plays_32 : decode cX7_plays 32 = .ok (.iconst 1, 1) := by decide +kernel
theorem dX7_plays_33 : decode cX7_plays 33 = .ok (.iadd, 1) := by decide +kernel
theorem dX7_plays_34 : decode cX7_plays 34 = .ok (.iload_n 2, 1) := by decide +kernel
theorem dX7_plays_35 : decode cX7_plays 35 = .ok (.iastore, 1) := by decide +kernel
theorem dX7_plays_36 : decode cX7_plays 36 = .ok (.aload_n 0, 1) := by decide +kernel
theorem dX7_plays_37 : decode cX7_plays 37 = .ok (.getfield 7, 3) := by decide +kernel
theorem dX7_plays_40 : decode cX7_plays 40 = .ok (.iload 5, 2) := by decide +kernel
theorem dX7_plays_42 : decode cX7_plays 42 = .ok (.iconst 2, 1) := by decide +kernel
theorem dX7_plays_43 : decode cX7_plays 43 = .ok (.iadd, 1) := by decide +kernel
theorem dX7_plays_44 : decode cX7_plays 44 = .ok (.iload_n 3, 1) := by decide +kernel
theorem dX7_plays_45 : decode cX7_plays 45 = .ok (.iastore, 1) := by decide +kernel
theorem dX7_plays_46 : decode cX7_plays 46 = .ok (.aload_n 0, 1) := by decide +kernel
theorem dX7_plays_47 : decode cX7_plays 47 = .ok (.getfield 7, 3) := by decide +kernel
theorem dX7_plays_50 : decode cX7_plays 50 = .ok (.iload 5, 2) := by decide +kernel
theorem dX7_plays_52 : decode cX7_plays 52 = .ok (.iconst 3, 1) := by decide +kernel
theorem dX7_plays_53 : decode cX7_plays 53 = .ok (.iadd, 1) := by decide +kernel
theorem dX7_plays_54 : decode cX7_plays 54 = .ok (.iload 4, 2) := by decide +kernel
theorem dX7_plays_56 : decode cX7_plays 56 = .ok (.iastore, 1) := by decide +kernel
theorem dX7_plays_57 : decode cX7_plays 57 = .ok (.aload_n 0, 1) := by decide +kernel
theorem dX7_plays_58 : decode cX7_plays 58 = .ok (.getfield 7, 3) := by decide +kernel
theorem dX7_plays_61 : decode cX7_plays 61 = .ok (.bipush 11, 2) := by decide +kernel
theorem dX7_plays_63 : decode cX7_plays 63 = .ok (.dup2, 1) := by decide +kernel
theorem dX7_plays_64 : decode cX7_plays 64 = .ok (.iaload, 1) := by decide +kernel
theorem dX7_plays_65 : decode cX7_plays 65 = .ok (.iconst 1, 1) := by decide +kernel
theorem dX7_plays_66 : decode cX7_plays 66 = .ok (.iadd, 1) := by decide +kernel
theorem dX7_plays_67 : decode cX7_plays 67 = .ok (.iastore, 1) := by decide +kernel
theorem dX7_plays_68 : decode cX7_plays 68 = .ok (.iload_n 1, 1) := by decide +kernel
theorem dX7_plays_69 : decode cX7_plays 69 = .ok (.iconst 2, 1) := by decide +kernel
theorem dX7_plays_70 : decode cX7_plays 70 = .ok (.if_icmp .ge 16, 3) := by decide +kernel
theorem dX7_plays_73 : decode cX7_plays 73 = .ok (.aload_n 0, 1) := by decide +kernel
theorem dX7_plays_74 : decode cX7_plays 74 = .ok (.getfield 7, 3) := by decide +kernel
theorem dX7_plays_77 : decode cX7_plays 77 = .ok (.iconst 5, 1) := by decide +kernel
theorem dX7_plays_78 : decode cX7_plays 78 = .ok (.iload_n 2, 1) := by decide +kernel
theorem dX7_plays_79 : decode cX7_plays 79 = .ok (.iadd, 1) := by decide +kernel
theorem dX7_plays_80 : decode cX7_plays 80 = .ok (.dup2, 1) := by decide +kernel
theorem dX7_plays_81 : decode cX7_plays 81 = .ok (.iaload, 1) := by decide +kernel
theorem dX7_plays_82 : decode cX7_plays 82 = .ok (.iload 4, 2) := by decide +kernel
theorem dX7_plays_84 : decode cX7_plays 84 = .ok (.isub, 1) := by decide +kernel
theorem dX7_plays_85 : decode cX7_plays 85 = .ok (.iastore, 1) := by decide +kernel
theorem dX7_plays_86 : decode cX7_plays 86 = .ok (.iload_n 1, 1) := by decide +kernel
theorem dX7_plays_87 : decode cX7_plays 87 = .ok (.iconst 1, 1) := by decide +kernel
theorem dX7_plays_88 : decode cX7_plays 88 = .ok (.if_icmp .ne 16, 3) := by decide +kernel
theorem dX7_plays_91 : decode cX7_plays 91 = .ok (.aload_n 0, 1) := by decide +kernel
theorem dX7_plays_92 : decode cX7_plays 92 = .ok (.getfield 7, 3) := by decide +kernel
theorem dX7_plays_95 : decode cX7_plays 95 = .ok (.iconst 5, 1) := by decide +kernel
theorem dX7_plays_96 : decode cX7_plays 96 = .ok (.iload_n 3, 1) := by decide +kernel
theorem dX7_plays_97 : decode cX7_plays 97 = .ok (.iadd, 1) := by decide +kernel
theorem dX7_plays_98 : decode cX7_plays 98 = .ok (.dup2, 1) := by decide +kernel
theorem dX7_plays_99 : decode cX7_plays 99 = .ok (.iaload, 1) := by decide +kernel
theorem dX7_plays_100 : decode cX7_plays 100 = .ok (.iload 4, 2) := by decide +kernel
theorem dX7_plays_102 : decode cX7_plays 102 = .ok (.isub, 1) := by decide +kernel
theorem dX7_plays_103 : decode cX7_plays 103 = .ok (.iastore, 1) := by decide +kernel
theorem dX7_plays_104 : decode cX7_plays 104 = .ok (.iload_n 1, 1) := by decide +kernel
theorem dX7_plays_105 : decode cX7_plays 105 = .ok (.iconst 2, 1) := by decide +kernel
theorem dX7_plays_106 : decode cX7_plays 106 = .ok (.if_icmp .ne 14, 3) := by decide +kernel
theorem dX7_plays_109 : decode cX7_plays 109 = .ok (.aload_n 0, 1) := by decide +kernel
theorem dX7_plays_110 : decode cX7_plays 110 = .ok (.getfield 7, 3) := by decide +kernel
theorem dX7_plays_113 : decode cX7_plays 113 = .ok (.bipush 9, 2) := by decide +kernel
theorem dX7_plays_115 : decode cX7_plays 115 = .ok (.dup2, 1) := by decide +kernel
theorem dX7_plays_116 : decode cX7_plays 116 = .ok (.iaload, 1) := by decide +kernel
theorem dX7_plays_117 : decode cX7_plays 117 = .ok (.iconst 1, 1) := by decide +kernel
theorem dX7_plays_118 : decode cX7_plays 118 = .ok (.isub, 1) := by decide +kernel
theorem dX7_plays_119 : decode cX7_plays 119 = .ok (.iastore, 1) := by decide +kernel
theorem dX7_plays_120 : decode cX7_plays 120 = .ok (.return_, 1) := by decide +kernel
theorem dX7_isFull_0 : decode cX7_isFull 0 = .ok (.aload_n 0, 1) := by decide +kernel
theorem dX7_isFull_1 : decode cX7_isFull 1 = .ok (.getfield 7, 3) := by decide +kernel
theorem dX7_isFull_4 : decode cX7_isFull 4 = .ok (.bipush 11, 2) := by decide +kernel
theorem dX7_isFull_6 : decode cX7_isFull 6 = .ok (.iaload, 1) := by decide +kernel
theorem dX7_isFull_7 : decode cX7_isFull 7 = .ok (.bipush 40, 2) := by decide +kernel
theorem dX7_isFull_9 : decode cX7_isFull 9 = .ok (.if_icmp .ne 7, 3) := by decide +kernel
theorem dX7_isFull_12 : decode cX7_isFull 12 = .ok (.iconst 1, 1) := by decide +kernel
theorem dX7_isFull_13 : decode cX7_isFull 13 = .ok (.goto 4, 3) := by decide +kernel
theorem dX7_isFull_16 : decode cX7_isFull 16 = .ok (.iconst 0, 1) := by decide +kernel
theorem dX7_isFull_17 : decode cX7_isFull 17 = .ok (.ireturn, 1) := by decide +kernel
theorem dX7_take_0 : decode cX7_take 0 = .ok (.aload_n 0, 1) := by decide +kernel
theorem dX7_take_1 : decode cX7_take 1 = .ok (.iconst 0, 1) := by decide +kernel
theorem dX7_take_2 : decode cX7_take 2 = .ok (.putfield 73, 3) := by decide +kernel
theorem dX7_take_5 : decode cX7_take 5 = .ok (.aload_n 0, 1) := by decide +kernel
theorem dX7_take_6 : decode cX7_take 6 = .ok (.iload_n 1, 1) := by decide +kernel
theorem dX7_take_7 : decode cX7_take 7 = .ok (.invokevirtual 378, 3) := by decide +kernel
theorem dX7_take_10 : decode cX7_take 10 = .ok (.ifCond .eq 32, 3) := by decide +kernel
theorem dX7_take_13 : decode cX7_take 13 = .ok (.aload_n 0, 1) := by decide +kernel
theorem dX7_take_14 : decode cX7_take 14 = .ok (.aload_n 0, 1) := by decide +kernel
theorem dX7_take_15 : decode cX7_take 15 = .ok (.aload_n 0, 1) := by decide +kernel
theorem dX7_take_16 : decode cX7_take 16 = .ok (.getfield 7, 3) := by decide +kernel
theorem dX7_take_19 : decode cX7_take 19 = .ok (.iconst 1, 1) := by decide +kernel
theorem dX7_take_20 : decode cX7_take 20 = .ok (.iload_n 1, 1) := by decide +kernel
theorem dX7_take_21 : decode cX7_take 21 = .ok (.iadd, 1) := by decide +kernel
theorem dX7_take_22 : decode cX7_take 22 = .ok (.iaload, 1) := by decide +kernel
theorem dX7_take_23 : decode cX7_take 23 = .ok (.aload_n 0, 1) := by decide +kernel
theorem dX7_take_24 : decode cX7_take 24 = .ok (.getfield 7, 3) := by decide +kernel
theorem dX7_take_27 : decode cX7_take 27 = .ok (.iconst 5, 1) := by decide +kernel
theorem dX7_take_28 : decode cX7_take 28 = .ok (.iload_n 1, 1) := by decide +kernel
theorem dX7_take_29 : decode cX7_take 29 = .ok (.iadd, 1) := by decide +kernel
theorem dX7_take_30 : decode cX7_take 30 = .ok (.iaload, 1) := by decide +kernel
theorem dX7_take_31 : decode cX7_take 31 = .ok (.iload_n 2, 1) := by decide +kernel
theorem dX7_take_32 : decode cX7_take 32 = .ok (.invokevirtual 92, 3) := by decide +kernel
theorem dX7_take_35 : decode cX7_take 35 = .ok (.iconst 2, 1) := by decide +kernel
theorem dX7_take_36 : decode cX7_take 36 = .ok (.invokevirtual 256, 3) := by decide +kernel
theorem dX7_take_39 : decode cX7_take 39 = .ok (.ifCond .ne 5, 3) := by decide +kernel
theorem dX7_take_42 : decode cX7_take 42 = .ok (.iconst 0, 1) := by decide +kernel
theorem dX7_take_43 : decode cX7_take 43 = .ok (.ireturn, 1) := by decide +kernel
theorem dX7_take_44 : decode cX7_take 44 = .ok (.aload_n 0, 1) := by decide +kernel
theorem dX7_take_45 : decode cX7_take 45 = .ok (.invokevirtual 390, 3) := by decide +kernel
theorem dX7_take_48 : decode cX7_take 48 = .ok (.ifCond .eq 5, 3) := by decide +kernel
theorem dX7_take_51 : decode cX7_take 51 = .ok (.iconst (-1), 1) := by decide +kernel
theorem dX7_take_52 : decode cX7_take 52 = .ok (.ireturn, 1) := by decide +kernel
theorem dX7_take_53 : decode cX7_take 53 = .ok (.aload_n 0, 1) := by decide +kernel
theorem dX7_take_54 : decode cX7_take 54 = .ok (.iconst 0, 1) := by decide +kernel
theorem dX7_take_55 : decode cX7_take 55 = .ok (.iload_n 1, 1) := by decide +kernel
theorem dX7_take_56 : decode cX7_take 56 = .ok (.iconst (-1), 1) := by decide +kernel
theorem dX7_take_57 : decode cX7_take 57 = .ok (.iload_n 2, 1) := by decide +kernel
theorem dX7_take_58 : decode cX7_take 58 = .ok (.invokevirtual 393, 3) := by decide +kernel
theorem dX7_take_61 : decode cX7_take 61 = .ok (.aload_n 0, 1) := by decide +kernel
theorem dX7_take_62 : decode cX7_take 62 = .ok (.getfield 7, 3) := by decide +kernel
theorem dX7_take_65 : decode cX7_take 65 = .ok (.iconst 5, 1) := by decide +kernel
theorem dX7_take_66 : decode cX7_take 66 = .ok (.iload_n 1, 1) := by decide +kernel
theorem dX7_take_67 : decode cX7_take 67 = .ok (.iadd, 1) := by decide +kernel
theorem dX7_take_68 : decode cX7_take 68 = .ok (.iaload, 1) := by decide +kernel
theorem dX7_take_69 : decode cX7_take 69 = .ok (.ireturn, 1) := by decide +kernel
theorem dX7_isShared_0 : decode cX7_isShared 0 = .ok (.iload_n 1, 1) := by decide +kernel
theorem dX7_isShared_1 : decode cX7_isShared 1 = .ok (.iload_n 2, 1) := by decide +kernel
theorem dX7_isShared_2 : decode cX7_isShared 2 = .ok (.if_icmp .eq 52, 3) := by decide +kernel
theorem dX7_isShared_5 : decode cX7_isShared 5 = .ok (.iload_n 3, 1) := by decide +kernel
theorem dX7_isShared_6 : decode cX7_isShared 6 = .ok (.iconst 1, 1) := by decide +kernel
theorem dX7_isShared_7 : decode cX7_isShared 7 = .ok (.bipush 15, 2) := by decide +kernel
theorem dX7_isShared_9 : decode cX7_isShared 9 = .ok (.invokestatic 77, 3) := by decide +kernel
theorem dX7_isShared_12 : decode cX7_isShared 12 = .ok (.ifCond .eq 42, 3) := by decide +kernel
theorem dX7_isShared_15 : decode cX7_isShared 15 = .ok (.aload_n 0, 1) := by decide +kernel
theorem dX7_isShared_16 : decode cX7_isShared 16 = .ok (.getfield 225, 3) := by decide +kernel
theorem dX7_isShared_19 : decode cX7_isShared 19 = .ok (.iload_n 3, 1) := by decide +kernel
theorem dX7_isShared_20 : decode cX7_isShared 20 = .ok (.invokestatic 313, 3) := by decide +kernel
theorem dX7_isShared_23 : decode cX7_isShared 23 = .ok (.ifCond .eq 31, 3) := by decide +kernel
theorem dX7_isShared_26 : decode cX7_isShared 26 = .ok (.aload_n 0, 1) := by decide +kernel
theorem dX7_isShared_27 : decode cX7_isShared 27 = .ok (.getfield 7, 3) := by decide +kernel
theorem dX7_isShared_30 : decode cX7_isShared 30 = .ok (.iconst 5, 1) := by decide +kernel
theorem dX7_isShared_31 : decode cX7_isShared 31 = .ok (.iload_n 1, 1) := by decide +kernel
theorem dX7_isShared_32 : decode cX7_isShared 32 = .ok (.iadd, 1) := by decide +kernel
theorem dX7_isShared_33 : decode cX7_isShared 33 = .ok (.iaload, 1) := by decide +kernel
theorem dX7_isShared_34 : decode cX7_isShared 34 = .ok (.iload_n 3, 1) := by decide +kernel
theorem dX7_isShared_35 : decode cX7_isShared 35 = .ok (.if_icmp .lt 19, 3) := by decide +kernel
theorem dX7_isShared_38 : decode cX7_isShared 38 = .ok (.aload_n 0, 1) := by decide +kernel
theorem dX7_isShared_39 : decode cX7_isShared 39 = .ok (.getfield 7, 3) := by decide +kernel
theorem dX7_isShared_42 : decode cX7_isShared 42 = .ok (.iconst 5, 1) := by decide +kernel
theorem dX7_isShared_43 : decode cX7_isShared 43 = .ok (.iload_n 2, 1) := by decide +kernel
theorem dX7_isShared_44 : decode cX7_isShared 44 = .ok (.iadd, 1) := by decide +kernel
theorem dX7_isShared_45 : decode cX7_isShared 45 = .ok (.iaload, 1) := by decide +kernel
theorem dX7_isShared_46 : decode cX7_isShared 46 = .ok (.iload_n 3, 1) := by decide +kernel
theorem dX7_isShared_47 : decode cX7_isShared 47 = .ok (.if_icmp .lt 7, 3) := by decide +kernel
theorem dX7_isShared_50 : decode cX7_isShared 50 = .ok (.iconst 1, 1) := by decide +kernel
theorem dX7_isShared_51 : decode cX7_isShared 51 = .ok (.goto 4, 3) := by decide +kernel
theorem dX7_isShared_54 : decode cX7_isShared 54 = .ok (.iconst 0, 1) := by decide +kernel
theorem dX7_isShared_55 : decode cX7_isShared 55 = .ok (.ireturn, 1) := by decide +kernel
theorem dX7_takeBoth_0 : decode cX7_takeBoth 0 = .ok (.aload_n 0, 1) := by decide +kernel
theorem dX7_takeBoth_1 : decode cX7_takeBoth 1 = .ok (.iconst 0, 1) := by decide +kernel
theorem dX7_takeBoth_2 : decode cX7_takeBoth 2 = .ok (.putfield 73, 3) := by decide +kernel
theorem dX7_takeBoth_5 : decode cX7_takeBoth 5 = .ok (.aload_n 0, 1) := by decide +kernel
theorem dX7_takeBoth_6 : decode cX7_takeBoth 6 = .ok (.iload_n 1, 1) := by decide +kernel
theorem dX7_takeBoth_7 : decode cX7_takeBoth 7 = .ok (.invokevirtual 378, 3) := by decide +kernel
theorem dX7_takeBoth_10 : decode cX7_takeBoth 10 = .ok (.ifCond .eq 26, 3) := by decide +kernel
theorem dX7_takeBoth_13 : decode cX7_takeBoth 13 = .ok (.aload_n 0, 1) := by decide +kernel
theorem dX7_takeBoth_14 : decode cX7_takeBoth 14 = .ok (.iload_n 2, 1) := by decide +kernel
theorem dX7_takeBoth_15 : decode cX7_takeBoth 15 = .ok (.invokevirtual 378, 3) := by decide +kernel
theorem dX7_takeBoth_18 : decode cX7_takeBoth 18 = .ok (.ifCond .eq 18, 3) := by decide +kernel
theorem dX7_takeBoth_21 : decode cX7_takeBoth 21 = .ok (.aload_n 0, 1) := by decide +kernel
theorem dX7_takeBoth_22 : decode cX7_takeBoth 22 = .ok (.aload_n 0, 1) := by decide +kernel
theorem dX7_takeBoth_23 : decode cX7_takeBoth 23 = .ok (.iload_n 1, 1) := by decide +kernel
theorem dX7_takeBoth_24 : decode cX7_takeBoth 24 = .ok (.iload_n 2, 1) := by decide +kernel
theorem dX7_takeBoth_25 : decode cX7_takeBoth 25 = .ok (.iload_n 3, 1) := by decide +kernel
theorem dX7_takeBoth_26 : decode cX7_takeBoth 26 = .ok (.invokevirtual 397, 3) := by decide +kernel
theorem dX7_takeBoth_29 : decode cX7_takeBoth 29 = .ok (.iconst 2, 1) := by decide +kernel
theorem dX7_takeBoth_30 : decode cX7_takeBoth 30 = .ok (.invokevirtual 256, 3) := by decide +kernel
theorem dX7_takeBoth_33 : decode cX7_takeBoth 33 = .ok (.ifCond .ne 5, 3) := by decide +kernel
theorem dX7_takeBoth_36 : decode cX7_takeBoth 36 = .ok (.iconst 0, 1) := by decide +kernel
theorem dX7_takeBoth_37 : decode cX7_takeBoth 37 = .ok (.ireturn, 1) := by decide +kernel
theorem dX7_takeBoth_38 : decode cX7_takeBoth 38 = .ok (.aload_n 0, 1) := by decide +kernel
theorem dX7_takeBoth_39 : decode cX7_takeBoth 39 = .ok (.invokevirtual 390, 3) := by decide +kernel
theorem dX7_takeBoth_42 : decode cX7_takeBoth 42 = .ok (.ifCond .eq 5, 3) := by decide +kernel
theorem dX7_takeBoth_45 : decode cX7_takeBoth 45 = .ok (.iconst (-1), 1) := by decide +kernel
theorem dX7_takeBoth_46 : decode cX7_takeBoth 46 = .ok (.ireturn, 1) := by decide +kernel
theorem dX7_takeBoth_47 : decode cX7_takeBoth 47 = .ok (.aload_n 0, 1) := by decide +kernel
theorem dX7_takeBoth_48 : decode cX7_takeBoth 48 = .ok (.iconst 1, 1) := by decide +kernel
theorem dX7_takeBoth_49 : decode cX7_takeBoth 49 = .ok (.iload_n 1, 1) := by decide +kernel
theorem dX7_takeBoth_50 : decode cX7_takeBoth 50 = .ok (.iload_n 2, 1) := by decide +kernel
theorem dX7_takeBoth_51 : decode cX7_takeBoth 51 = .ok (.if_icmp .ge 7, 3) := by decide +kernel
theorem dX7_takeBoth_54 : decode cX7_takeBoth 54 = .ok (.iload_n 1, 1) := by decide +kernel
theorem dX7_takeBoth_55 : decode cX7_takeBoth 55 = .ok (.goto 4, 3) := by decide +kernel
theorem dX7_takeBoth_58 : decode cX7_takeBoth 58 = .ok (.iload_n 2, 1) := by decide +kernel
theorem dX7_takeBoth_59 : decode cX7_takeBoth 59 = .ok (.iload_n 1, 1) := by decide +kernel
theorem dX7_takeBoth_60 : decode cX7_takeBoth 60 = .ok (.iload_n 2, 1) := by decide +kernel
theorem dX7_takeBoth_61 : decode cX7_takeBoth 61 = .ok (.if_icmp .ge 7, 3) := by decide +kernel
theorem dX7_takeBoth_64 : decode cX7_takeBoth 64 = .ok (.iload_n 2, 1) := by decide +kernel
theorem dX7_takeBoth_65 : decode cX7_takeBoth 65 = .ok (.goto 4, 3) := by decide +kernel
theorem dX7_takeBoth_68 : decode cX7_takeBoth 68 = .ok (.iload_n 1, 1) := by decide +kernel
theorem dX7_takeBoth_69 : decode cX7_takeBoth 69 = .ok (.iload_n 3, 1) := by decide +kernel
theorem dX7_takeBoth_70 : decode cX7_takeBoth 70 = .ok (.invokevirtual 393, 3) := by decide +kernel
theorem dX7_takeBoth_73 : decode cX7_takeBoth 73 = .ok (.iconst 0, 1) := by decide +kernel
theorem dX7_takeBoth_74 : decode cX7_takeBoth 74 = .ok (.istore 4, 2) := by decide +kernel
theorem dX7_takeBoth_76 : decode cX7_takeBoth 76 = .ok (.iconst 0, 1) := by decide +kernel
theorem dX7_takeBoth_77 : decode cX7_takeBoth 77 = .ok (.istore 5, 2) := by decide +kernel
theorem dX7_takeBoth_79 : decode cX7_takeBoth 79 = .ok (.iload 5, 2) := by decide +kernel
theorem dX7_takeBoth_81 : decode cX7_takeBoth 81 = .ok (.aload_n 0, 1) := by decide +kernel
theorem dX7_takeBoth_82 : decode cX7_takeBoth 82 = .ok (.getfield 7, 3) := by decide +kernel
theorem dX7_takeBoth_85 : decode cX7_takeBoth 85 = .ok (.iconst 0, 1) := by decide +kernel
theorem dX7_takeBoth_86 : decode cX7_takeBoth 86 = .ok (.iaload, 1) := by decide +kernel
theorem dX7_takeBoth_87 : decode cX7_takeBoth 87 = .ok (.if_icmp .ge 23, 3) := by decide +kernel
theorem dX7_takeBoth_90 : decode cX7_takeBoth 90 = .ok (.iload 4, 2) := by decide +kernel
theorem dX7_takeBoth_92 : decode cX7_takeBoth 92 = .ok (.aload_n 0, 1) := by decide +kernel
theorem dX7_takeBoth_93 : decode cX7_takeBoth 93 = .ok (.getfield 7, 3) := by decide +kernel
theorem dX7_takeBoth_96 : decode cX7_takeBoth 96 = .ok (.iconst 5, 1) := by decide +kernel
theorem dX7_takeBoth_97 : decode cX7_takeBoth 97 = .ok (.iload 5, 2) := by decide +kernel
theorem dX7_takeBoth_99 : decode cX7_takeBoth 99 = .ok (.iadd, 1) := by decide +kernel
theorem dX7_takeBoth_100 : decode cX7_takeBoth 100 = .ok (.iaload, 1) := by decide +kernel
theorem dX7_takeBoth_101 : decode cX7_takeBoth 101 = .ok (.iadd, 1) := by decide +kernel
theorem dX7_takeBoth_102 : decode cX7_takeBoth 102 = .ok (.istore 4, 2) := by decide +kernel
theorem dX7_takeBoth_104 : decode cX7_takeBoth 104 = .ok (.iinc 5 1, 3) := by decide +kernel
theorem dX7_takeBoth_107 : decode cX7_takeBoth 107 = .ok (.goto (-28), 3) := by decide +kernel
theorem dX7_takeBoth_110 : decode cX7_takeBoth 110 = .ok (.iload 4, 2) := by decide +kernel
theorem dX7_takeBoth_112 : decode cX7_takeBoth 112 = .ok (.ireturn, 1) := by decide +kernel
theorem dX7_pass_0 : decode cX7_pass 0 = .ok (.aload_n 0, 1) := by decide +kernel
theorem dX7_pass_1 : decode cX7_pass 1 = .ok (.iconst 0, 1) := by decide +kernel
theorem dX7_pass_2 : decode cX7_pass 2 = .ok (.putfield 73, 3) := by decide +kernel
theorem dX7_pass_5 : decode cX7_pass 5 = .ok (.aload_n 0, 1) := by decide +kernel
theorem dX7_pass_6 : decode cX7_pass 6 = .ok (.invokevirtual 360, 3) := by decide +kernel
theorem dX7_pass_9 : decode cX7_pass 9 = .ok (.istore_n 1, 1) := by decide +kernel
theorem dX7_pass_10 : decode cX7_pass 10 = .ok (.aload_n 0, 1) := by decide +kernel
theorem dX7_pass_11 : decode cX7_pass 11 = .ok (.aload_n 0, 1) := by decide +kernel
theorem dX7_pass_12 : decode cX7_pass 12 = .ok (.getfield 7, 3) := by decide +kernel
theorem dX7_pass_15 : decode cX7_pass 15 = .ok (.bipush 9, 2) := by decide +kernel
theorem dX7_pass_17 : decode cX7_pass 17 = .ok (.iaload, 1) := by decide +kernel
theorem dX7_pass_18 : decode cX7_pass 18 = .ok (.ifCond .le 11, 3) := by decide +kernel
theorem dX7_pass_21 : decode cX7_pass 21 = .ok (.iload_n 1, 1) := by decide +kernel
theorem dX7_pass_22 : decode cX7_pass 22 = .ok (.ifCond .le 7, 3) := by decide +kernel
theorem dX7_pass_25 : decode cX7_pass 25 = .ok (.iconst 1, 1) := by decide +kernel
theorem dX7_pass_26 : decode cX7_pass 26 = .ok (.goto 4, 3) := by decide +kernel
theorem dX7_pass_29 : decode cX7_pass 29 = .ok (.iconst 0, 1) := by decide +kernel
theorem dX7_pass_30 : decode cX7_pass 30 = .ok (.iconst 1, 1) := by decide +kernel
theorem dX7_pass_31 : decode cX7_pass 31 = .ok (.invokevirtual 256, 3) := by decide +kernel
theorem dX7_pass_34 : decode cX7_pass 34 = .ok (.ifCond .ne 5, 3) := by decide +kernel
theorem dX7_pass_37 : decode cX7_pass 37 = .ok (.iconst 0, 1) := by decide +kernel
theorem dX7_pass_38 : decode cX7_pass 38 = .ok (.ireturn, 1) := by decide +kernel
theorem dX7_pass_39 : decode cX7_pass 39 = .ok (.aload_n 0, 1) := by decide +kernel
theorem dX7_pass_40 : decode cX7_pass 40 = .ok (.invokevirtual 390, 3) := by decide +kernel
theorem dX7_pass_43 : decode cX7_pass 43 = .ok (.ifCond .eq 5, 3) := by decide +kernel
theorem dX7_pass_46 : decode cX7_pass 46 = .ok (.iconst (-1), 1) := by decide +kernel
theorem dX7_pass_47 : decode cX7_pass 47 = .ok (.ireturn, 1) := by decide +kernel
theorem dX7_pass_48 : decode cX7_pass 48 = .ok (.aload_n 0, 1) := by decide +kernel
theorem dX7_pass_49 : decode cX7_pass 49 = .ok (.iconst 2, 1) := by decide +kernel
theorem dX7_pass_50 : decode cX7_pass 50 = .ok (.iconst (-1), 1) := by decide +kernel
theorem dX7_pass_51 : decode cX7_pass 51 = .ok (.iconst (-1), 1) := by decide +kernel
theorem dX7_pass_52 : decode cX7_pass 52 = .ok (.iconst 0, 1) := by decide +kernel
theorem dX7_pass_53 : decode cX7_pass 53 = .ok (.invokevirtual 393, 3) := by decide +kernel
theorem dX7_pass_56 : decode cX7_pass 56 = .ok (.aload_n 0, 1) := by decide +kernel
theorem dX7_pass_57 : decode cX7_pass 57 = .ok (.getfield 7, 3) := by decide +kernel
theorem dX7_pass_60 : decode cX7_pass 60 = .ok (.bipush 9, 2) := by decide +kernel
theorem dX7_pass_62 : decode cX7_pass 62 = .ok (.iaload, 1) := by decide +kernel
theorem dX7_pass_63 : decode cX7_pass 63 = .ok (.ireturn, 1) := by decide +kernel
theorem dX7_play_0 : decode cX7_play 0 = .ok (.aload_n 0, 1) := by decide +kernel
theorem dX7_play_1 : decode cX7_play 1 = .ok (.iconst 0, 1) := by decide +kernel
theorem dX7_play_2 : decode cX7_play 2 = .ok (.putfield 73, 3) := by decide +kernel
theorem dX7_play_5 : decode cX7_play 5 = .ok (.aload_n 0, 1) := by decide +kernel
theorem dX7_play_6 : decode cX7_play 6 = .ok (.aload_n 0, 1) := by decide +kernel
theorem dX7_play_7 : decode cX7_play 7 = .ok (.invokevirtual 360, 3) := by decide +kernel
theorem dX7_play_10 : decode cX7_play 10 = .ok (.ifCond .le 7, 3) := by decide +kernel
theorem dX7_play_13 : decode cX7_play 13 = .ok (.iconst 1, 1) := by decide +kernel
theorem dX7_play_14 : decode cX7_play 14 = .ok (.goto 4, 3) := by decide +kernel
theorem dX7_play_17 : decode cX7_play 17 = .ok (.iconst 0, 1) := by decide +kernel
theorem dX7_play_18 : decode cX7_play 18 = .ok (.iconst 1, 1) := by decide +kernel
theorem dX7_play_19 : decode cX7_play 19 = .ok (.invokevirtual 256, 3) := by decide +kernel
theorem dX7_play_22 : decode cX7_play 22 = .ok (.ifCond .ne 5, 3) := by decide +kernel
theorem dX7_play_25 : decode cX7_play 25 = .ok (.iconst 0, 1) := by decide +kernel
theorem dX7_play_26 : decode cX7_play 26 = .ok (.ireturn, 1) := by decide +kernel
theorem dX7_play_27 : decode cX7_play 27 = .ok (.aload_n 0, 1) := by decide +kernel
theorem dX7_play_28 : decode cX7_play 28 = .ok (.invokevirtual 390, 3) := by decide +kernel
theorem dX7_play_31 : decode cX7_play 31 = .ok (.ifCond .eq 5, 3) := by decide +kernel
theorem dX7_play_34 : decode cX7_play 34 = .ok (.iconst (-1), 1) := by decide +kernel
theorem dX7_play_35 : decode cX7_play 35 = .ok (.ireturn, 1) := by decide +kernel
theorem dX7_play_36 : decode cX7_play 36 = .ok (.aload_n 0, 1) := by decide +kernel
theorem dX7_play_37 : decode cX7_play 37 = .ok (.invokevirtual 381, 3) := by decide +kernel
theorem dX7_play_40 : decode cX7_play 40 = .ok (.istore_n 1, 1) := by decide +kernel
theorem dX7_play_41 : decode cX7_play 41 = .ok (.aload_n 0, 1) := by decide +kernel
theorem dX7_play_42 : decode cX7_play 42 = .ok (.iload_n 1, 1) := by decide +kernel
theorem dX7_play_43 : decode cX7_play 43 = .ok (.invokevirtual 354, 3) := by decide +kernel
theorem dX7_play_46 : decode cX7_play 46 = .ok (.istore_n 2, 1) := by decide +kernel
theorem dX7_play_47 : decode cX7_play 47 = .ok (.aload_n 0, 1) := by decide +kernel
theorem dX7_play_48 : decode cX7_play 48 = .ok (.aload_n 0, 1) := by decide +kernel
theorem dX7_play_49 : decode cX7_play 49 = .ok (.getfield 329, 3) := by decide +kernel
theorem dX7_play_52 : decode cX7_play 52 = .ok (.aload_n 0, 1) := by decide +kernel
theorem dX7_play_53 : decode cX7_play 53 = .ok (.getfield 332, 3) := by decide +kernel
theorem dX7_play_56 : decode cX7_play 56 = .ok (.aload_n 0, 1) := by decide +kernel
theorem dX7_play_57 : decode cX7_play 57 = .ok (.getfield 335, 3) := by decide +kernel
theorem dX7_play_60 : decode cX7_play 60 = .ok (.aload_n 0, 1) := by decide +kernel
theorem dX7_play_61 : decode cX7_play 61 = .ok (.getfield 338, 3) := by decide +kernel
theorem dX7_play_64 : decode cX7_play 64 = .ok (.invokevirtual 393, 3) := by decide +kernel
theorem dX7_play_67 : decode cX7_play 67 = .ok (.iload_n 1, 1) := by decide +kernel
theorem dX7_play_68 : decode cX7_play 68 = .ok (.ireturn, 1) := by decide +kernel
theorem dX7_setSize_0 : decode cX7_setSize 0 = .ok (.aload_n 0, 1) := by decide +kernel
theorem dX7_setSize_1 : decode cX7_setSize 1 = .ok (.iconst 0, 1) := by decide +kernel
theorem dX7_setSize_2 : decode cX7_setSize 2 = .ok (.putfield 73, 3) := by decide +kernel
theorem dX7_setSize_5 : decode cX7_setSize 5 = .ok (.aload_n 0, 1) := by decide +kernel
theorem dX7_setSize_6 : decode cX7_setSize 6 = .ok (.iload_n 1, 1) := by decide +kernel
theorem dX7_setSize_7 : decode cX7_setSize 7 = .ok (.invokevirtual 378, 3) := by decide +kernel
theorem dX7_setSize_10 : decode cX7_setSize 10 = .ok (.ifCond .eq 18, 3) := by decide +kernel
theorem dX7_setSize_13 : decode cX7_setSize 13 = .ok (.aload_n 0, 1) := by decide +kernel
theorem dX7_setSize_14 : decode cX7_setSize 14 = .ok (.iload_n 2, 1) := by decide +kernel
theorem dX7_setSize_15 : decode cX7_setSize 15 = .ok (.iconst 0, 1) := by decide +kernel
theorem dX7_setSize_16 : decode cX7_setSize 16 = .ok (.bipush 15, 2) := by decide +kernel
theorem dX7_setSize_18 : decode cX7_setSize 18 = .ok (.invokestatic 77, 3) := by decide +kernel
theorem dX7_setSize_21 : decode cX7_setSize 21 = .ok (.iconst 2, 1) := by decide +kernel
theorem dX7_setSize_22 : decode cX7_setSize 22 = .ok (.invokevirtual 256, 3) := by decide +kernel
theorem dX7_setSize_25 : decode cX7_setSize 25 = .ok (.ifCond .ne 5, 3) := by decide +kernel
theorem dX7_setSize_28 : decode cX7_setSize 28 = .ok (.iconst 0, 1) := by decide +kernel
theorem dX7_setSize_29 : decode cX7_setSize 29 = .ok (.ireturn, 1) := by decide +kernel
theorem dX7_setSize_30 : decode cX7_setSize 30 = .ok (.aload_n 0, 1) := by decide +kernel
theorem dX7_setSize_31 : decode cX7_setSize 31 = .ok (.invokevirtual 387, 3) := by decide +kernel
theorem dX7_setSize_34 : decode cX7_setSize 34 = .ok (.aload_n 0, 1) := by decide +kernel
theorem dX7_setSize_35 : decode cX7_setSize 35 = .ok (.getfield 7, 3) := by decide +kernel
theorem dX7_setSize_38 : decode cX7_setSize 38 = .ok (.iconst 5, 1) := by decide +kernel
theorem dX7_setSize_39 : decode cX7_setSize 39 = .ok (.iload_n 1, 1) := by decide +kernel
theorem dX7_setSize_40 : decode cX7_setSize 40 = .ok (.iadd, 1) := by decide +kernel
theorem dX7_setSize_41 : decode cX7_setSize 41 = .ok (.iaload, 1) := by decide +kernel
theorem dX7_setSize_42 : decode cX7_setSize 42 = .ok (.istore_n 3, 1) := by decide +kernel
theorem dX7_setSize_43 : decode cX7_setSize 43 = .ok (.aload_n 0, 1) := by decide +kernel
theorem dX7_setSize_44 : decode cX7_setSize 44 = .ok (.getfield 7, 3) := by decide +kernel
theorem dX7_setSize_47 : decode cX7_setSize 47 = .ok (.iconst 5, 1) := by decide +kernel
theorem dX7_setSize_48 : decode cX7_setSize 48 = .ok (.iload_n 1, 1) := by decide +kernel
theorem dX7_setSize_49 : decode cX7_setSize 49 = .ok (.iadd, 1) := by decide +kernel
theorem dX7_setSize_50 : decode cX7_setSize 50 = .ok (.iload_n 2, 1) := by decide +kernel
theorem dX7_setSize_51 : decode cX7_setSize 51 = .ok (.iastore, 1) := by decide +kernel
theorem dX7_setSize_52 : decode cX7_setSize 52 = .ok (.iload_n 3, 1) := by decide +kernel
theorem dX7_setSize_53 : decode cX7_setSize 53 = .ok (.ireturn, 1) := by decide +kernel
theorem dX7_setPasses_0 : decode cX7_setPasses 0 = .ok (.aload_n 0, 1) := by decide +kernel
theorem dX7_setPasses_1 : decode cX7_setPasses 1 = .ok (.iconst 0, 1) := by decide +kernel
theorem dX7_setPasses_2 : decode cX7_setPasses 2 = .ok (.putfield 73, 3) := by decide +kernel
theorem dX7_setPasses_5 : decode cX7_setPasses 5 = .ok (.aload_n 0, 1) := by decide +kernel
theorem dX7_setPasses_6 : decode cX7_setPasses 6 = .ok (.iload_n 1, 1) := by decide +kernel
theorem dX7_setPasses_7 : decode cX7_setPasses 7 = .ok (.iconst 0, 1) := by decide +kernel
theorem dX7_setPasses_8 : decode cX7_setPasses 8 = .ok (.iconst 3, 1) := by decide +kernel
theorem dX7_setPasses_9 : decode cX7_setPasses 9 = .ok (.invokestatic 77, 3) := by decide +kernel
theorem dX7_setPasses_12 : decode cX7_setPasses 12 = .ok (.iconst 1, 1) := by decide +kernel
theorem dX7_setPasses_13 : decode cX7_setPasses 13 = .ok (.invokevirtual 256, 3) := by decide +kernel
theorem dX7_setPasses_16 : decode cX7_setPasses 16 = .ok (.ifCond .ne 5, 3) := by decide +kernel
theorem dX7_setPasses_19 : decode cX7_setPasses 19 = .ok (.iconst 0, 1) := by decide +kernel
theorem dX7_setPasses_20 : decode cX7_setPasses 20 = .ok (.ireturn, 1) := by decide +kernel
theorem dX7_setPasses_21 : decode cX7_setPasses 21 = .ok (.aload_n 0, 1) := by decide +kernel
theorem dX7_setPasses_22 : decode cX7_setPasses 22 = .ok (.invokevirtual 387, 3) := by decide +kernel
theorem dX7_setPasses_25 : decode cX7_setPasses 25 = .ok (.aload_n 0, 1) := by decide +kernel
theorem dX7_setPasses_26 : decode cX7_setPasses 26 = .ok (.getfield 7, 3) := by decide +kernel
theorem dX7_setPasses_29 : decode cX7_setPasses 29 = .ok (.bipush 9, 2) := by decide +kernel
theorem dX7_setPasses_31 : decode cX7_setPasses 31 = .ok (.iaload, 1) := by decide +kernel
theorem dX7_setPasses_32 : decode cX7_setPasses 32 = .ok (.istore_n 2, 1) := by decide +kernel
theorem dX7_setPasses_33 : decode cX7_setPasses 33 = .ok (.aload_n 0, 1) := by decide +kernel
theorem dX7_setPasses_34 : decode cX7_setPasses 34 = .ok (.getfield 7, 3) := by decide +kernel
theorem dX7_setPasses_37 : decode cX7_setPasses 37 = .ok (.bipush 9, 2) := by decide +kernel
theorem dX7_setPasses_39 : decode cX7_setPasses 39 = .ok (.iload_n 1, 1) := by decide +kernel
theorem dX7_setPasses_40 : decode cX7_setPasses 40 = .ok (.iastore, 1) := by decide +kernel
theorem dX7_setPasses_41 : decode cX7_setPasses 41 = .ok (.iload_n 2, 1) := by decide +kernel
theorem dX7_setPasses_42 : decode cX7_setPasses 42 = .ok (.ireturn, 1) := by decide +kernel
theorem dX7_setMisere_0 : decode cX7_setMisere 0 = .ok (.aload_n 0, 1) := by decide +kernel
theorem dX7_setMisere_1 : decode cX7_setMisere 1 = .ok (.iconst 0, 1) := by decide +kernel
theorem dX7_setMisere_2 : decode cX7_setMisere 2 = .ok (.putfield 73, 3) := by decide +kernel
theorem dX7_setMisere_5 : decode cX7_setMisere 5 = .ok (.aload_n 0, 1) := by decide +kernel
theorem dX7_setMisere_6 : decode cX7_setMisere 6 = .ok (.invokevirtual 387, 3) := by decide +kernel
theorem dX7_setMisere_9 : decode cX7_setMisere 9 = .ok (.aload_n 0, 1) := by decide +kernel
theorem dX7_setMisere_10 : decode cX7_setMisere 10 = .ok (.getfield 7, 3) := by decide +kernel
theorem dX7_setMisere_13 : decode cX7_setMisere 13 = .ok (.bipush 10, 2) := by decide +kernel
theorem dX7_setMisere_15 : decode cX7_setMisere 15 = .ok (.iaload, 1) := by decide +kernel
theorem dX7_setMisere_16 : decode cX7_setMisere 16 = .ok (.iconst 1, 1) := by decide +kernel
theorem dX7_setMisere_17 : decode cX7_setMisere 17 = .ok (.if_icmp .ne 7, 3) := by decide +kernel
theorem dX7_setMisere_20 : decode cX7_setMisere 20 = .ok (.iconst 1, 1) := by decide +kernel
theorem dX7_setMisere_21 : decode cX7_setMisere 21 = .ok (.goto 4, 3) := by decide +kernel
theorem dX7_setMisere_24 : decode cX7_setMisere 24 = .ok (.iconst 0, 1) := by decide +kernel
theorem dX7_setMisere_25 : decode cX7_setMisere 25 = .ok (.istore_n 2, 1) := by decide +kernel
theorem dX7_setMisere_26 : decode cX7_setMisere 26 = .ok (.aload_n 0, 1) := by decide +kernel
theorem dX7_setMisere_27 : decode cX7_setMisere 27 = .ok (.getfield 7, 3) := by decide +kernel
theorem dX7_setMisere_30 : decode cX7_setMisere 30 = .ok (.bipush 10, 2) := by decide +kernel
theorem dX7_setMisere_32 : decode cX7_setMisere 32 = .ok (.iload_n 1, 1) := by decide +kernel
theorem dX7_setMisere_33 : decode cX7_setMisere 33 = .ok (.ifCond .eq 7, 3) := by decide +kernel
theorem dX7_setMisere_36 : decode cX7_setMisere 36 = .ok (.iconst 1, 1) := by decide +kernel
theorem dX7_setMisere_37 : decode cX7_setMisere 37 = .ok (.goto 4, 3) := by decide +kernel
theorem dX7_setMisere_40 : decode cX7_setMisere 40 = .ok (.iconst 0, 1) := by decide +kernel
theorem dX7_setMisere_41 : decode cX7_setMisere 41 = .ok (.iastore, 1) := by decide +kernel
theorem dX7_setMisere_42 : decode cX7_setMisere 42 = .ok (.iload_n 2, 1) := by decide +kernel
theorem dX7_setMisere_43 : decode cX7_setMisere 43 = .ok (.ireturn, 1) := by decide +kernel
theorem dX7_addHeap_0 : decode cX7_addHeap 0 = .ok (.aload_n 0, 1) := by decide +kernel
theorem dX7_addHeap_1 : decode cX7_addHeap 1 = .ok (.iconst 0, 1) := by decide +kernel
theorem dX7_addHeap_2 : decode cX7_addHeap 2 = .ok (.putfield 73, 3) := by decide +kernel
theorem dX7_addHeap_5 : decode cX7_addHeap 5 = .ok (.aload_n 0, 1) := by decide +kernel
theorem dX7_addHeap_6 : decode cX7_addHeap 6 = .ok (.iload_n 1, 1) := by decide +kernel
theorem dX7_addHeap_7 : decode cX7_addHeap 7 = .ok (.invokevirtual 366, 3) := by decide +kernel
theorem dX7_addHeap_10 : decode cX7_addHeap 10 = .ok (.ifCond .eq 41, 3) := by decide +kernel
theorem dX7_addHeap_13 : decode cX7_addHeap 13 = .ok (.aload_n 0, 1) := by decide +kernel
theorem dX7_addHeap_14 : decode cX7_addHeap 14 = .ok (.iload_n 2, 1) := by decide +kernel
theorem dX7_addHeap_15 : decode cX7_addHeap 15 = .ok (.iconst 0, 1) := by decide +kernel
theorem dX7_addHeap_16 : decode cX7_addHeap 16 = .ok (.bipush 15, 2) := by decide +kernel
theorem dX7_addHeap_18 : decode cX7_addHeap 18 = .ok (.invokestatic 77, 3) := by decide +kernel
theorem dX7_addHeap_21 : decode cX7_addHeap 21 = .ok (.iconst 2, 1) := by decide +kernel
theorem dX7_addHeap_22 : decode cX7_addHeap 22 = .ok (.invokevirtual 256, 3) := by decide +kernel
theorem dX7_addHeap_25 : decode cX7_addHeap 25 = .ok (.ifCond .eq 26, 3) := by decide +kernel
theorem dX7_addHeap_28 : decode cX7_addHeap 28 = .ok (.aload_n 0, 1) := by decide +kernel
theorem dX7_addHeap_29 : decode cX7_addHeap 29 = .ok (.aload_n 0, 1) := by decide +kernel
theorem dX7_addHeap_30 : decode cX7_addHeap 30 = .ok (.getfield 7, 3) := by decide +kernel
theorem dX7_addHeap_33 : decode cX7_addHeap 33 = .ok (.iconst 0, 1) := by decide +kernel
theorem dX7_addHeap_34 : decode cX7_addHeap 34 = .ok (.iaload, 1) := by decide +kernel
theorem dX7_addHeap_35 : decode cX7_addHeap 35 = .ok (.iconst 4, 1) := by decide +kernel
theorem dX7_addHeap_36 : decode cX7_addHeap 36 = .ok (.if_icmp .ge 7, 3) := by decide +kernel
theorem dX7_addHeap_39 : decode cX7_addHeap 39 = .ok (.iconst 1, 1) := by decide +kernel
theorem dX7_addHeap_40 : decode cX7_addHeap 40 = .ok (.goto 4, 3) := by decide +kernel
theorem dX7_addHeap_43 : decode cX7_addHeap 43 = .ok (.iconst 0, 1) := by decide +kernel
theorem dX7_addHeap_44 : decode cX7_addHeap 44 = .ok (.iconst 3, 1) := by decide +kernel
theorem dX7_addHeap_45 : decode cX7_addHeap 45 = .ok (.invokevirtual 256, 3) := by decide +kernel
theorem dX7_addHeap_48 : decode cX7_addHeap 48 = .ok (.ifCond .ne 5, 3) := by decide +kernel
theorem dX7_addHeap_51 : decode cX7_addHeap 51 = .ok (.iconst 0, 1) := by decide +kernel
theorem dX7_addHeap_52 : decode cX7_addHeap 52 = .ok (.ireturn, 1) := by decide +kernel
theorem dX7_addHeap_53 : decode cX7_addHeap 53 = .ok (.aload_n 0, 1) := by decide +kernel
theorem dX7_addHeap_54 : decode cX7_addHeap 54 = .ok (.invokevirtual 387, 3) := by decide +kernel
theorem dX7_addHeap_57 : decode cX7_addHeap 57 = .ok (.aload_n 0, 1) := by decide +kernel
theorem dX7_addHeap_58 : decode cX7_addHeap 58 = .ok (.getfield 7, 3) := by decide +kernel
theorem dX7_addHeap_61 : decode cX7_addHeap 61 = .ok (.iconst 1, 1) := by decide +kernel
theorem dX7_addHeap_62 : decode cX7_addHeap 62 = .ok (.aload_n 0, 1) := by decide +kernel
theorem dX7_addHeap_63 : decode cX7_addHeap 63 = .ok (.getfield 7, 3) := by decide +kernel
theorem dX7_addHeap_66 : decode cX7_addHeap 66 = .ok (.iconst 0, 1) := by decide +kernel
theorem dX7_addHeap_67 : decode cX7_addHeap 67 = .ok (.iaload, 1) := by decide +kernel
theorem dX7_addHeap_68 : decode cX7_addHeap 68 = .ok (.iadd, 1) := by decide +kernel
theorem dX7_addHeap_69 : decode cX7_addHeap 69 = .ok (.iload_n 1, 1) := by decide +kernel
theorem dX7_addHeap_70 : decode cX7_addHeap 70 = .ok (.iastore, 1) := by decide +kernel
theorem dX7_addHeap_71 : decode cX7_addHeap 71 = .ok (.aload_n 0, 1) := by decide +kernel
theorem dX7_addHeap_72 : decode cX7_addHeap 72 = .ok (.getfield 7, 3) := by decide +kernel
theorem dX7_addHeap_75 : decode cX7_addHeap 75 = .ok (.iconst 5, 1) := by decide +kernel
theorem dX7_addHeap_76 : decode cX7_addHeap 76 = .ok (.aload_n 0, 1) := by decide +kernel
theorem dX7_addHeap_77 : decode cX7_addHeap 77 = .ok (.getfield 7, 3) := by decide +kernel
theorem dX7_addHeap_80 : decode cX7_addHeap 80 = .ok (.iconst 0, 1) := by decide +kernel
theorem dX7_addHeap_81 : decode cX7_addHeap 81 = .ok (.iaload, 1) := by decide +kernel
theorem dX7_addHeap_82 : decode cX7_addHeap 82 = .ok (.iadd, 1) := by decide +kernel
theorem dX7_addHeap_83 : decode cX7_addHeap 83 = .ok (.iload_n 2, 1) := by decide +kernel
theorem dX7_addHeap_84 : decode cX7_addHeap 84 = .ok (.iastore, 1) := by decide +kernel
theorem dX7_addHeap_85 : decode cX7_addHeap 85 = .ok (.aload_n 0, 1) := by decide +kernel
theorem dX7_addHeap_86 : decode cX7_addHeap 86 = .ok (.getfield 7, 3) := by decide +kernel
theorem dX7_addHeap_89 : decode cX7_addHeap 89 = .ok (.iconst 0, 1) := by decide +kernel
theorem dX7_addHeap_90 : decode cX7_addHeap 90 = .ok (.dup2, 1) := by decide +kernel
theorem dX7_addHeap_91 : decode cX7_addHeap 91 = .ok (.iaload, 1) := by decide +kernel
theorem dX7_addHeap_92 : decode cX7_addHeap 92 = .ok (.iconst 1, 1) := by decide +kernel
theorem dX7_addHeap_93 : decode cX7_addHeap 93 = .ok (.iadd, 1) := by decide +kernel
theorem dX7_addHeap_94 : decode cX7_addHeap 94 = .ok (.iastore, 1) := by decide +kernel
theorem dX7_addHeap_95 : decode cX7_addHeap 95 = .ok (.aload_n 0, 1) := by decide +kernel
theorem dX7_addHeap_96 : decode cX7_addHeap 96 = .ok (.getfield 7, 3) := by decide +kernel
theorem dX7_addHeap_99 : decode cX7_addHeap 99 = .ok (.iconst 0, 1) := by decide +kernel
theorem dX7_addHeap_100 : decode cX7_addHeap 100 = .ok (.iaload, 1) := by decide +kernel
theorem dX7_addHeap_101 : decode cX7_addHeap 101 = .ok (.iconst 1, 1) := by decide +kernel
theorem dX7_addHeap_102 : decode cX7_addHeap 102 = .ok (.isub, 1) := by decide +kernel
theorem dX7_addHeap_103 : decode cX7_addHeap 103 = .ok (.ireturn, 1) := by decide +kernel
theorem dX7_removeHeap_0 : decode cX7_removeHeap 0 = .ok (.aload_n 0, 1) := by decide +kernel
theorem dX7_removeHeap_1 : decode cX7_removeHeap 1 = .ok (.iconst 0, 1) := by decide +kernel
theorem dX7_removeHeap_2 : decode cX7_removeHeap 2 = .ok (.putfield 73, 3) := by decide +kernel
theorem dX7_removeHeap_5 : decode cX7_removeHeap 5 = .ok (.aload_n 0, 1) := by decide +kernel
theorem dX7_removeHeap_6 : decode cX7_removeHeap 6 = .ok (.iload_n 1, 1) := by decide +kernel
theorem dX7_removeHeap_7 : decode cX7_removeHeap 7 = .ok (.invokevirtual 378, 3) := by decide +kernel
theorem dX7_removeHeap_10 : decode cX7_removeHeap 10 = .ok (.ifCond .ne 5, 3) := by decide +kernel
theorem dX7_removeHeap_13 : decode cX7_removeHeap 13 = .ok (.iconst 0, 1) := by decide +kernel
theorem dX7_removeHeap_14 : decode cX7_removeHeap 14 = .ok (.ireturn, 1) := by decide +kernel
theorem dX7_removeHeap_15 : decode cX7_removeHeap 15 = .ok (.aload_n 0, 1) := by decide +kernel
theorem dX7_removeHeap_16 : decode cX7_removeHeap 16 = .ok (.invokevirtual 387, 3) := by decide +kernel
theorem dX7_removeHeap_19 : decode cX7_removeHeap 19 = .ok (.aload_n 0, 1) := by decide +kernel
theorem dX7_removeHeap_20 : decode cX7_removeHeap 20 = .ok (.getfield 7, 3) := by decide +kernel
theorem dX7_removeHeap_23 : decode cX7_removeHeap 23 = .ok (.iconst 0, 1) := by decide +kernel
theorem dX7_removeHeap_24 : decode cX7_removeHeap 24 = .ok (.dup2, 1) := by decide +kernel
theorem dX7_removeHeap_25 : decode cX7_removeHeap 25 = .ok (.iaload, 1) := by decide +kernel
theorem dX7_removeHeap_26 : decode cX7_removeHeap 26 = .ok (.iconst 1, 1) := by decide +kernel
theorem dX7_removeHeap_27 : decode cX7_removeHeap 27 = .ok (.isub, 1) := by decide +kernel
theorem dX7_removeHeap_28 : decode cX7_removeHeap 28 = .ok (.iastore, 1) := by decide +kernel
theorem dX7_removeHeap_29 : decode cX7_removeHeap 29 = .ok (.iload_n 1, 1) := by decide +kernel
theorem dX7_removeHeap_30 : decode cX7_removeHeap 30 = .ok (.istore_n 2, 1) := by decide +kernel
theorem dX7_removeHeap_31 : decode cX7_removeHeap 31 = .ok (.iload_n 2, 1) := by decide +kernel
theorem dX7_removeHeap_32 : decode cX7_removeHeap 32 = .ok (.aload_n 0, 1) := by decide +kernel
theorem dX7_removeHeap_33 : decode cX7_removeHeap 33 = .ok (.getfield 7, 3) := by decide +kernel
theorem dX7_removeHeap_36 : decode cX7_removeHeap 36 = .ok (.iconst 0, 1) := by decide +kernel
theorem dX7_removeHeap_37 : decode cX7_removeHeap 37 = .ok (.iaload, 1) := by decide +kernel
theorem dX7_removeHeap_38 : decode cX7_removeHeap 38 = .ok (.if_icmp .ge 45, 3) := by decide +kernel
theorem dX7_removeHeap_41 : decode cX7_removeHeap 41 = .ok (.aload_n 0, 1) := by decide +kernel
theorem dX7_removeHeap_42 : decode cX7_removeHeap 42 = .ok (.getfield 7, 3) := by decide +kernel
theorem dX7_removeHeap_45 : decode cX7_removeHeap 45 = .ok (.iconst 1, 1) := by decide +kernel
theorem dX7_removeHeap_46 : decode cX7_removeHeap 46 = .ok (.iload_n 2, 1) := by decide +kernel
theorem dX7_removeHeap_47 : decode cX7_removeHeap 47 = .ok (.iadd, 1) := by decide +kernel
theorem dX7_removeHeap_48 : decode cX7_removeHeap 48 = .ok (.aload_n 0, 1) := by decide +kernel
theorem dX7_removeHeap_49 : decode cX7_removeHeap 49 = .ok (.getfield 7, 3) := by decide +kernel
theorem dX7_removeHeap_52 : decode cX7_removeHeap 52 = .ok (.iconst 1, 1) := by decide +kernel
theorem dX7_removeHeap_53 : decode cX7_removeHeap 53 = .ok (.iload_n 2, 1) := by decide +kernel
theorem dX7_removeHeap_54 : decode cX7_removeHeap 54 = .ok (.iadd, 1) := by decide +kernel
theorem dX7_removeHeap_55 : decode cX7_removeHeap 55 = .ok (.iconst 1, 1) := by decide +kernel
theorem dX7_removeHeap_56 : decode cX7_removeHeap 56 = .ok (.iadd, 1) := by decide +kernel
theorem dX7_removeHeap_57 : decode cX7_removeHeap 57 = .ok (.iaload, 1) := by decide +kernel
theorem dX7_removeHeap_58 : decode cX7_removeHeap 58 = .ok (.iastore, 1) := by decide +kernel
theorem dX7_removeHeap_59 : decode cX7_removeHeap 59 = .ok (.aload_n 0, 1) := by decide +kernel
theorem dX7_removeHeap_60 : decode cX7_removeHeap 60 = .ok (.getfield 7, 3) := by decide +kernel
theorem dX7_removeHeap_63 : decode cX7_removeHeap 63 = .ok (.iconst 5, 1) := by decide +kernel
theorem dX7_removeHeap_64 : decode cX7_removeHeap 64 = .ok (.iload_n 2, 1) := by decide +kernel
theorem dX7_removeHeap_65 : decode cX7_removeHeap 65 = .ok (.iadd, 1) := by decide +kernel
theorem dX7_removeHeap_66 : decode cX7_removeHeap 66 = .ok (.aload_n 0, 1) := by decide +kernel
theorem dX7_removeHeap_67 : decode cX7_removeHeap 67 = .ok (.getfield 7, 3) := by decide +kernel
theorem dX7_removeHeap_70 : decode cX7_removeHeap 70 = .ok (.iconst 5, 1) := by decide +kernel
theorem dX7_removeHeap_71 : decode cX7_removeHeap 71 = .ok (.iload_n 2, 1) := by decide +kernel
theorem dX7_removeHeap_72 : decode cX7_removeHeap 72 = .ok (.iadd, 1) := by decide +kernel
theorem dX7_removeHeap_73 : decode cX7_removeHeap 73 = .ok (.iconst 1, 1) := by decide +kernel
theorem dX7_removeHeap_74 : decode cX7_removeHeap 74 = .ok (.iadd, 1) := by decide +kernel
theorem dX7_removeHeap_75 : decode cX7_removeHeap 75 = .ok (.iaload, 1) := by decide +kernel
theorem dX7_removeHeap_76 : decode cX7_removeHeap 76 = .ok (.iastore, 1) := by decide +kernel
theorem dX7_removeHeap_77 : decode cX7_removeHeap 77 = .ok (.iinc 2 1, 3) := by decide +kernel
theorem dX7_removeHeap_80 : decode cX7_removeHeap 80 = .ok (.goto (-49), 3) := by decide +kernel
theorem dX7_removeHeap_83 : decode cX7_removeHeap 83 = .ok (.aload_n 0, 1) := by decide +kernel
theorem dX7_removeHeap_84 : decode cX7_removeHeap 84 = .ok (.getfield 7, 3) := by decide +kernel
theorem dX7_removeHeap_87 : decode cX7_removeHeap 87 = .ok (.iconst 1, 1) := by decide +kernel
theorem dX7_removeHeap_88 : decode cX7_removeHeap 88 = .ok (.aload_n 0, 1) := by decide +kernel
theorem dX7_removeHeap_89 : decode cX7_removeHeap 89 = .ok (.getfield 7, 3) := by decide +kernel
theorem dX7_removeHeap_92 : decode cX7_removeHeap 92 = .ok (.iconst 0, 1) := by decide +kernel
theorem dX7_removeHeap_93 : decode cX7_removeHeap 93 = .ok (.iaload, 1) := by decide +kernel
theorem dX7_removeHeap_94 : decode cX7_removeHeap 94 = .ok (.iadd, 1) := by decide +kernel
theorem dX7_removeHeap_95 : decode cX7_removeHeap 95 = .ok (.iconst 0, 1) := by decide +kernel
theorem dX7_removeHeap_96 : decode cX7_removeHeap 96 = .ok (.iastore, 1) := by decide +kernel
theorem dX7_removeHeap_97 : decode cX7_removeHeap 97 = .ok (.aload_n 0, 1) := by decide +kernel
theorem dX7_removeHeap_98 : decode cX7_removeHeap 98 = .ok (.getfield 7, 3) := by decide +kernel
theorem dX7_removeHeap_101 : decode cX7_removeHeap 101 = .ok (.iconst 5, 1) := by decide +kernel
theorem dX7_removeHeap_102 : decode cX7_removeHeap 102 = .ok (.aload_n 0, 1) := by decide +kernel
theorem dX7_removeHeap_103 : decode cX7_removeHeap 103 = .ok (.getfield 7, 3) := by decide +kernel
theorem dX7_removeHeap_106 : decode cX7_removeHeap 106 = .ok (.iconst 0, 1) := by decide +kernel
theorem dX7_removeHeap_107 : decode cX7_removeHeap 107 = .ok (.iaload, 1) := by decide +kernel
theorem dX7_removeHeap_108 : decode cX7_removeHeap 108 = .ok (.iadd, 1) := by decide +kernel
theorem dX7_removeHeap_109 : decode cX7_removeHeap 109 = .ok (.iconst 0, 1) := by decide +kernel
theorem dX7_removeHeap_110 : decode cX7_removeHeap 110 = .ok (.iastore, 1) := by decide +kernel
theorem dX7_removeHeap_111 : decode cX7_removeHeap 111 = .ok (.aload_n 0, 1) := by decide +kernel
theorem dX7_removeHeap_112 : decode cX7_removeHeap 112 = .ok (.getfield 7, 3) := by decide +kernel
theorem dX7_removeHeap_115 : decode cX7_removeHeap 115 = .ok (.iconst 0, 1) := by decide +kernel
theorem dX7_removeHeap_116 : decode cX7_removeHeap 116 = .ok (.iaload, 1) := by decide +kernel
theorem dX7_removeHeap_117 : decode cX7_removeHeap 117 = .ok (.ireturn, 1) := by decide +kernel
theorem dX7_undo_0 : decode cX7_undo 0 = .ok (.aload_n 0, 1) := by decide +kernel
theorem dX7_undo_1 : decode cX7_undo 1 = .ok (.iconst 0, 1) := by decide +kernel
theorem dX7_undo_2 : decode cX7_undo 2 = .ok (.putfield 73, 3) := by decide +kernel
theorem dX7_undo_5 : decode cX7_undo 5 = .ok (.aload_n 0, 1) := by decide +kernel
theorem dX7_undo_6 : decode cX7_undo 6 = .ok (.getfield 271, 3) := by decide +kernel
theorem dX7_undo_9 : decode cX7_undo 9 = .ok (.ifCond .ne 5, 3) := by decide +kernel
theorem dX7_undo_12 : decode cX7_undo 12 = .ok (.iconst (-1), 1) := by decide +kernel
theorem dX7_undo_13 : decode cX7_undo 13 = .ok (.ireturn, 1) := by decide +kernel
theorem dX7_undo_14 : decode cX7_undo 14 = .ok (.aload_n 0, 1) := by decide +kernel
theorem dX7_undo_15 : decode cX7_undo 15 = .ok (.dup, 1) := by decide +kernel
theorem dX7_undo_16 : decode cX7_undo 16 = .ok (.getfield 271, 3) := by decide +kernel
theorem dX7_undo_19 : decode cX7_undo 19 = .ok (.iconst 1, 1) := by decide +kernel
theorem dX7_undo_20 : decode cX7_undo 20 = .ok (.isub, 1) := by decide +kernel
theorem dX7_undo_21 : decode cX7_undo 21 = .ok (.putfield 271, 3) := by decide +kernel
theorem dX7_undo_24 : decode cX7_undo 24 = .ok (.aload_n 0, 1) := by decide +kernel
theorem dX7_undo_25 : decode cX7_undo 25 = .ok (.getfield 16, 3) := by decide +kernel
theorem dX7_undo_28 : decode cX7_undo 28 = .ok (.sipush 172, 3) := by decide +kernel
theorem dX7_undo_31 : decode cX7_undo 31 = .ok (.aload_n 0, 1) := by decide +kernel
theorem dX7_undo_32 : decode cX7_undo 32 = .ok (.getfield 271, 3) := by decide +kernel
theorem dX7_undo_35 : decode cX7_undo 35 = .ok (.imul, 1) := by decide +kernel
theorem dX7_undo_36 : decode cX7_undo 36 = .ok (.aload_n 0, 1) := by decide +kernel
theorem dX7_undo_37 : decode cX7_undo 37 = .ok (.getfield 7, 3) := by decide +kernel
theorem dX7_undo_40 : decode cX7_undo 40 = .ok (.iconst 0, 1) := by decide +kernel
theorem dX7_undo_41 : decode cX7_undo 41 = .ok (.sipush 172, 3) := by decide +kernel
theorem dX7_undo_44 : decode cX7_undo 44 = .ok (.invokestatic 252, 3) := by decide +kernel
theorem dX7_undo_47 : decode cX7_undo 47 = .ok (.aload_n 0, 1) := by decide +kernel
theorem dX7_undo_48 : decode cX7_undo 48 = .ok (.getfield 271, 3) := by decide +kernel
theorem dX7_undo_51 : decode cX7_undo 51 = .ok (.ireturn, 1) := by decide +kernel
theorem dX7_maySlot_0 : decode cX7_maySlot 0 = .ok (.aload_n 0, 1) := by decide +kernel
theorem dX7_maySlot_1 : decode cX7_maySlot 1 = .ok (.iload_n 1, 1) := by decide +kernel
theorem dX7_maySlot_2 : decode cX7_maySlot 2 = .ok (.iconst 0, 1) := by decide +kernel
theorem dX7_maySlot_3 : decode cX7_maySlot 3 = .ok (.iconst 1, 1) := by decide +kernel
theorem dX7_maySlot_4 : decode cX7_maySlot 4 = .ok (.invokestatic 77, 3) := by decide +kernel
theorem dX7_maySlot_7 : decode cX7_maySlot 7 = .ok (.iconst 1, 1) := by decide +kernel
theorem dX7_maySlot_8 : decode cX7_maySlot 8 = .ok (.invokevirtual 256, 3) := by decide +kernel
theorem dX7_maySlot_11 : decode cX7_maySlot 11 = .ok (.ireturn, 1) := by decide +kernel
theorem dX7_saveSnapshot_0 : decode cX7_saveSnapshot 0 = .ok (.aload_n 0, 1) := by decide +kernel
theorem dX7_saveSnapshot_1 : decode cX7_saveSnapshot 1 = .ok (.iconst 0, 1) := by decide +kernel
theorem dX7_saveSnapshot_2 : decode cX7_saveSnapshot 2 = .ok (.putfield 73, 3) := by decide +kernel
theorem dX7_saveSnapshot_5 : decode cX7_saveSnapshot 5 = .ok (.aload_n 0, 1) := by decide +kernel
theorem dX7_saveSnapshot_6 : decode cX7_saveSnapshot 6 = .ok (.iload_n 1, 1) := by decide +kernel
theorem dX7_saveSnapshot_7 : decode cX7_saveSnapshot 7 = .ok (.invokevirtual 400, 3) := by decide +kernel
theorem dX7_saveSnapshot_10 : decode cX7_saveSnapshot 10 = .ok (.ifCond .ne 5, 3) := by decide +kernel
theorem dX7_saveSnapshot_13 : decode cX7_saveSnapshot 13 = .ok (.iconst 0, 1) := by decide +kernel
theorem dX7_saveSnapshot_14 : decode cX7_saveSnapshot 14 = .ok (.ireturn, 1) := by decide +kernel
theorem dX7_saveSnapshot_15 : decode cX7_saveSnapshot 15 = .ok (.aload_n 0, 1) := by decide +kernel
theorem dX7_saveSnapshot_16 : decode cX7_saveSnapshot 16 = .ok (.getfield 22, 3) := by decide +kernel
theorem dX7_saveSnapshot_19 : decode cX7_saveSnapshot 19 = .ok (.iload_n 1, 1) := by decide +kernel
theorem dX7_saveSnapshot_20 : decode cX7_saveSnapshot 20 = .ok (.baload, 1) := by decide +kernel
theorem dX7_saveSnapshot_21 : decode cX7_saveSnapshot 21 = .ok (.istore_n 2, 1) := by decide +kernel
theorem dX7_saveSnapshot_22 : decode cX7_saveSnapshot 22 = .ok (.aload_n 0, 1) := by decide +kernel
theorem dX7_saveSnapshot_23 : decode cX7_saveSnapshot 23 = .ok (.getfield 7, 3) := by decide +kernel
theorem dX7_saveSnapshot_26 : decode cX7_saveSnapshot 26 = .ok (.iconst 0, 1) := by decide +kernel
theorem dX7_saveSnapshot_27 : decode cX7_saveSnapshot 27 = .ok (.aload_n 0, 1) := by decide +kernel
theorem dX7_saveSnapshot_28 : decode cX7_saveSnapshot 28 = .ok (.getfield 19, 3) := by decide +kernel
theorem dX7_saveSnapshot_31 : decode cX7_saveSnapshot 31 = .ok (.sipush 172, 3) := by decide +kernel
theorem dX7_saveSnapshot_34 : decode cX7_saveSnapshot 34 = .ok (.iload_n 1, 1) := by decide +kernel
theorem dX7_saveSnapshot_35 : decode cX7_saveSnapshot 35 = .ok (.imul, 1) := by decide +kernel
theorem dX7_saveSnapshot_36 : decode cX7_saveSnapshot 36 = .ok (.sipush 172, 3) := by decide +kernel
theorem dX7_saveSnapshot_39 : decode cX7_saveSnapshot 39 = .ok (.invokestatic 252, 3) := by decide +kernel
theorem dX7_saveSnapshot_42 : decode cX7_saveSnapshot 42 = .ok (.aload_n 0, 1) := by decide +kernel
theorem dX7_saveSnapshot_43 : decode cX7_saveSnapshot 43 = .ok (.getfield 22, 3) := by decide +kernel
theorem dX7_saveSnapshot_46 : decode cX7_saveSnapshot 46 = .ok (.iload_n 1, 1) := by decide +kernel
theorem dX7_saveSnapshot_47 : decode cX7_saveSnapshot 47 = .ok (.iconst 1, 1) := by decide +kernel
theorem dX7_saveSnapshot_48 : decode cX7_saveSnapshot 48 = .ok (.bastore, 1) := by decide +kernel
theorem dX7_saveSnapshot_49 : decode cX7_saveSnapshot 49 = .ok (.iload_n 2, 1) := by decide +kernel
theorem dX7_saveSnapshot_50 : decode cX7_saveSnapshot 50 = .ok (.ireturn, 1) := by decide +kernel
theorem dX7_restoreSnapshot_0 : decode cX7_restoreSnapshot 0 = .ok (.aload_n 0, 1) := by decide +kernel
theorem dX7_restoreSnapshot_1 : decode cX7_restoreSnapshot 1 = .ok (.iconst 0, 1) := by decide +kernel
theorem dX7_restoreSnapshot_2 : decode cX7_restoreSnapshot 2 = .ok (.putfield 73, 3) := by decide +kernel
theorem dX7_restoreSnapshot_5 : decode cX7_restoreSnapshot 5 = .ok (.aload_n 0, 1) := by decide +kernel
theorem dX7_restoreSnapshot_6 : decode cX7_restoreSnapshot 6 = .ok (.iload_n 1, 1) := by decide +kernel
theorem dX7_restoreSnapshot_7 : decode cX7_restoreSnapshot 7 = .ok (.invokevirtual 400, 3) := by decide +kernel
theorem dX7_restoreSnapshot_10 : decode cX7_restoreSnapshot 10 = .ok (.ifCond .eq 17, 3) := by decide +kernel
theorem dX7_restoreSnapshot_13 : decode cX7_restoreSnapshot 13 = .ok (.aload_n 0, 1) := by decide +kernel
theorem dX7_restoreSnapshot_14 : decode cX7_restoreSnapshot 14 = .ok (.aload_n 0, 1) := by decide +kernel
theorem dX7_restoreSnapshot_15 : decode cX7_restoreSnapshot 15 = .ok (.getfield 22, 3) := by decide +kernel
theorem dX7_restoreSnapshot_18 : decode cX7_restoreSnapshot 18 = .ok (.iload_n 1, 1) := by decide +kernel
theorem dX7_restoreSnapshot_19 : decode cX7_restoreSnapshot 19 = .ok (.baload, 1) := by decide +kernel
theorem dX7_restoreSnapshot_20 : decode cX7_restoreSnapshot 20 = .ok (.iconst 2, 1) := by decide +kernel
theorem dX7_restoreSnapshot_21 : decode cX7_restoreSnapshot 21 = .ok (.invokevirtual 256, 3) := by decide +kernel
theorem dX7_restoreSnapshot_24 : decode cX7_restoreSnapshot 24 = .ok (.ifCond .ne 5, 3) := by decide +kernel
theorem dX7_restoreSnapshot_27 : decode cX7_restoreSnapshot 27 = .ok (.iconst 0, 1) := by decide +kernel
theorem dX7_restoreSnapshot_28 : decode cX7_restoreSnapshot 28 = .ok (.ireturn, 1) := by decide +kernel
theorem dX7_restoreSnapshot_29 : decode cX7_restoreSnapshot 29 = .ok (.aload_n 0, 1) := by decide +kernel
theorem dX7_restoreSnapshot_30 : decode cX7_restoreSnapshot 30 = .ok (.getfield 19, 3) := by decide +kernel
theorem dX7_restoreSnapshot_33 : decode cX7_restoreSnapshot 33 = .ok (.sipush 172, 3) := by decide +kernel
theorem dX7_restoreSnapshot_36 : decode cX7_restoreSnapshot 36 = .ok (.iload_n 1, 1) := by decide +kernel
theorem dX7_restoreSnapshot_37 : decode cX7_restoreSnapshot 37 = .ok (.imul, 1) := by decide +kernel
theorem dX7_restoreSnapshot_38 : decode cX7_restoreSnapshot 38 = .ok (.aload_n 0, 1) := by decide +kernel
theorem dX7_restoreSnapshot_39 : decode cX7_restoreSnapshot 39 = .ok (.getfield 7, 3) := by decide +kernel
theorem dX7_restoreSnapshot_42 : decode cX7_restoreSnapshot 42 = .ok (.iconst 0, 1) := by decide +kernel
theorem dX7_restoreSnapshot_43 : decode cX7_restoreSnapshot 43 = .ok (.sipush 172, 3) := by decide +kernel
theorem dX7_restoreSnapshot_46 : decode cX7_restoreSnapshot 46 = .ok (.invokestatic 252, 3) := by decide +kernel
theorem dX7_restoreSnapshot_49 : decode cX7_restoreSnapshot 49 = .ok (.aload_n 0, 1) := by decide +kernel
theorem dX7_restoreSnapshot_50 : decode cX7_restoreSnapshot 50 = .ok (.iconst 0, 1) := by decide +kernel
theorem dX7_restoreSnapshot_51 : decode cX7_restoreSnapshot 51 = .ok (.putfield 271, 3) := by decide +kernel
theorem dX7_restoreSnapshot_54 : decode cX7_restoreSnapshot 54 = .ok (.aload_n 0, 1) := by decide +kernel
theorem dX7_restoreSnapshot_55 : decode cX7_restoreSnapshot 55 = .ok (.getfield 7, 3) := by decide +kernel
theorem dX7_restoreSnapshot_58 : decode cX7_restoreSnapshot 58 = .ok (.iconst 0, 1) := by decide +kernel
theorem dX7_restoreSnapshot_59 : decode cX7_restoreSnapshot 59 = .ok (.iaload, 1) := by decide +kernel
theorem dX7_restoreSnapshot_60 : decode cX7_restoreSnapshot 60 = .ok (.ireturn, 1) := by decide +kernel
theorem dX7_checksum_0 : decode cX7_checksum 0 = .ok (.aload_n 0, 1) := by decide +kernel
theorem dX7_checksum_1 : decode cX7_checksum 1 = .ok (.iconst 0, 1) := by decide +kernel
theorem dX7_checksum_2 : decode cX7_checksum 2 = .ok (.putfield 73, 3) := by decide +kernel
theorem dX7_checksum_5 : decode cX7_checksum 5 = .ok (.aload_n 0, 1) := by decide +kernel
theorem dX7_checksum_6 : decode cX7_checksum 6 = .ok (.getfield 98, 3) := by decide +kernel
theorem dX7_checksum_9 : decode cX7_checksum 9 = .ok (.i2l, 1) := by decide +kernel
theorem dX7_checksum_10 : decode cX7_checksum 10 = .ok (.lstore_n 1, 1) := by decide +kernel
theorem dX7_checksum_11 : decode cX7_checksum 11 = .ok (.iconst 0, 1) := by decide +kernel
theorem dX7_checksum_12 : decode cX7_checksum 12 = .ok (.istore_n 3, 1) := by decide +kernel
theorem dX7_checksum_13 : decode cX7_checksum 13 = .ok (.iload_n 3, 1) := by decide +kernel
theorem dX7_checksum_14 : decode cX7_checksum 14 = .ok (.aload_n 0, 1) := by decide +kernel
theorem dX7_checksum_15 : decode cX7_checksum 15 = .ok (.getfield 98, 3) := by decide +kernel
theorem dX7_checksum_18 : decode cX7_checksum 18 = .ok (.if_icmp .ge 23, 3) := by decide +kernel
theorem dX7_checksum_21 : decode cX7_checksum 21 = .ok (.ldc2_w 403, 3) := by decide +kernel
theorem dX7_checksum_24 : decode cX7_checksum 24 = .ok (.lload_n 1, 1) := by decide +kernel
theorem dX7_checksum_25 : decode cX7_checksum 25 = .ok (.lmul, 1) := by decide +kernel
theorem dX7_checksum_26 : decode cX7_checksum 26 = .ok (.aload_n 0, 1) := by decide +kernel
theorem dX7_checksum_27 : decode cX7_checksum 27 = .ok (.getfield 26, 3) := by decide +kernel
theorem dX7_checksum_30 : decode cX7_checksum 30 = .ok (.iload_n 3, 1) := by decide +kernel
theorem dX7_checksum_31 : decode cX7_checksum 31 = .ok (.iaload, 1) := by decide +kernel
theorem dX7_checksum_32 : decode cX7_checksum 32 = .ok (.i2l, 1) := by decide +kernel
theorem dX7_checksum_33 : decode cX7_checksum 33 = .ok (.ladd, 1) := by decide +kernel
theorem dX7_checksum_34 : decode cX7_checksum 34 = .ok (.lstore_n 1, 1) := by decide +kernel
theorem dX7_checksum_35 : decode cX7_checksum 35 = .ok (.iinc 3 1, 3) := by decide +kernel
theorem dX7_checksum_38 : decode cX7_checksum 38 = .ok (.goto (-25), 3) := by decide +kernel
theorem dX7_checksum_41 : decode cX7_checksum 41 = .ok (.ldc2_w 403, 3) := by decide +kernel
theorem dX7_checksum_44 : decode cX7_checksum 44 = .ok (.lload_n 1, 1) := by decide +kernel
theorem dX7_checksum_45 : decode cX7_checksum 45 = .ok (.lmul, 1) := by decide +kernel
theorem dX7_checksum_46 : decode cX7_checksum 46 = .ok (.aload_n 0, 1) := by decide +kernel
theorem dX7_checksum_47 : decode cX7_checksum 47 = .ok (.getfield 7, 3) := by decide +kernel
theorem dX7_checksum_50 : decode cX7_checksum 50 = .ok (.iconst 0, 1) := by decide +kernel
theorem dX7_checksum_51 : decode cX7_checksum 51 = .ok (.iaload, 1) := by decide +kernel
theorem dX7_checksum_52 : decode cX7_checksum 52 = .ok (.i2l, 1) := by decide +kernel
theorem dX7_checksum_53 : decode cX7_checksum 53 = .ok (.ladd, 1) := by decide +kernel
theorem dX7_checksum_54 : decode cX7_checksum 54 = .ok (.lstore_n 1, 1) := by decide +kernel
theorem dX7_checksum_55 : decode cX7_checksum 55 = .ok (.iconst 0, 1) := by decide +kernel
theorem dX7_checksum_56 : decode cX7_checksum 56 = .ok (.istore_n 3, 1) := by decide +kernel
theorem dX7_checksum_57 : decode cX7_checksum 57 = .ok (.iload_n 3, 1) := by decide +kernel
theorem dX7_checksum_58 : decode cX7_checksum 58 = .ok (.aload_n 0, 1) := by decide +kernel
theorem dX7_checksum_59 : decode cX7_checksum 59 = .ok (.getfield 7, 3) := by decide +kernel
theorem dX7_checksum_62 : decode cX7_checksum 62 = .ok (.iconst 0, 1) := by decide +kernel
theorem dX7_checksum_63 : decode cX7_checksum 63 = .ok (.iaload, 1) := by decide +kernel
theorem dX7_checksum_64 : decode cX7_checksum 64 = .ok (.if_icmp .ge 39, 3) := by decide +kernel
theorem dX7_checksum_67 : decode cX7_checksum 67 = .ok (.ldc2_w 403, 3) := by decide +kernel
theorem dX7_checksum_70 : decode cX7_checksum 70 = .ok (.ldc2_w 403, 3) := by decide +kernel
theorem dX7_checksum_73 : decode cX7_checksum 73 = .ok (.lload_n 1, 1) := by decide +kernel
theorem dX7_checksum_74 : decode cX7_checksum 74 = .ok (.lmul, 1) := by decide +kernel
theorem dX7_checksum_75 : decode cX7_checksum 75 = .ok (.aload_n 0, 1) := by decide +kernel
theorem dX7_checksum_76 : decode cX7_checksum 76 = .ok (.getfield 7, 3) := by decide +kernel
theorem dX7_checksum_79 : decode cX7_checksum 79 = .ok (.iconst 1, 1) := by decide +kernel
theorem dX7_checksum_80 : decode cX7_checksum 80 = .ok (.iload_n 3, 1) := by decide +kernel
theorem dX7_checksum_81 : decode cX7_checksum 81 = .ok (.iadd, 1) := by decide +kernel
theorem dX7_checksum_82 : decode cX7_checksum 82 = .ok (.iaload, 1) := by decide +kernel
theorem dX7_checksum_83 : decode cX7_checksum 83 = .ok (.i2l, 1) := by decide +kernel
theorem dX7_checksum_84 : decode cX7_checksum 84 = .ok (.ladd, 1) := by decide +kernel
theorem dX7_checksum_85 : decode cX7_checksum 85 = .ok (.lmul, 1) := by decide +kernel
theorem dX7_checksum_86 : decode cX7_checksum 86 = .ok (.aload_n 0, 1) := by decide +kernel
theorem dX7_checksum_87 : decode cX7_checksum 87 = .ok (.getfield 7, 3) := by decide +kernel
theorem dX7_checksum_90 : decode cX7_checksum 90 = .ok (.iconst 5, 1) := by decide +kernel
theorem dX7_checksum_91 : decode cX7_checksum 91 = .ok (.iload_n 3, 1) := by decide +kernel
theorem dX7_checksum_92 : decode cX7_checksum 92 = .ok (.iadd, 1) := by decide +kernel
theorem dX7_checksum_93 : decode cX7_checksum 93 = .ok (.iaload, 1) := by decide +kernel
theorem dX7_checksum_94 : decode cX7_checksum 94 = .ok (.i2l, 1) := by decide +kernel
theorem dX7_checksum_95 : decode cX7_checksum 95 = .ok (.ladd, 1) := by decide +kernel
theorem dX7_checksum_96 : decode cX7_checksum 96 = .ok (.lstore_n 1, 1) := by decide +kernel
theorem dX7_checksum_97 : decode cX7_checksum 97 = .ok (.iinc 3 1, 3) := by decide +kernel
theorem dX7_checksum_100 : decode cX7_checksum 100 = .ok (.goto (-43), 3) := by decide +kernel
theorem dX7_checksum_103 : decode cX7_checksum 103 = .ok (.ldc2_w 403, 3) := by decide +kernel
theorem dX7_checksum_106 : decode cX7_checksum 106 = .ok (.lload_n 1, 1) := by decide +kernel
theorem dX7_checksum_107 : decode cX7_checksum 107 = .ok (.lmul, 1) := by decide +kernel
theorem dX7_checksum_108 : decode cX7_checksum 108 = .ok (.aload_n 0, 1) := by decide +kernel
theorem dX7_checksum_109 : decode cX7_checksum 109 = .ok (.getfield 7, 3) := by decide +kernel
theorem dX7_checksum_112 : decode cX7_checksum 112 = .ok (.bipush 9, 2) := by decide +kernel
theorem dX7_checksum_114 : decode cX7_checksum 114 = .ok (.iaload, 1) := by decide +kernel
theorem dX7_checksum_115 : decode cX7_checksum 115 = .ok (.i2l, 1) := by decide +kernel
theorem dX7_checksum_116 : decode cX7_checksum 116 = .ok (.ladd, 1) := by decide +kernel
theorem dX7_checksum_117 : decode cX7_checksum 117 = .ok (.lstore_n 1, 1) := by decide +kernel
theorem dX7_checksum_118 : decode cX7_checksum 118 = .ok (.ldc2_w 403, 3) := by decide +kernel
theorem dX7_checksum_121 : decode cX7_checksum 121 = .ok (.lload_n 1, 1) := by decide +kernel
theorem dX7_checksum_122 : decode cX7_checksum 122 = .ok (.lmul, 1) := by decide +kernel
theorem dX7_checksum_123 : decode cX7_checksum 123 = .ok (.aload_n 0, 1) := by decide +kernel
theorem dX7_checksum_124 : decode cX7_checksum 124 = .ok (.getfield 225, 3) := by decide +kernel
theorem dX7_checksum_127 : decode cX7_checksum 127 = .ok (.i2l, 1) := by decide +kernel
theorem dX7_checksum_128 : decode cX7_checksum 128 = .ok (.ladd, 1) := by decide +kernel
theorem dX7_checksum_129 : decode cX7_checksum 129 = .ok (.lstore_n 1, 1) := by decide +kernel
theorem dX7_checksum_130 : decode cX7_checksum 130 = .ok (.ldc2_w 403, 3) := by decide +kernel
theorem dX7_checksum_133 : decode cX7_checksum 133 = .ok (.lload_n 1, 1) := by decide +kernel
theorem dX7_checksum_134 : decode cX7_checksum 134 = .ok (.lmul, 1) := by decide +kernel
theorem dX7_checksum_135 : decode cX7_checksum 135 = .ok (.aload_n 0, 1) := by decide +kernel
theorem dX7_checksum_136 : decode cX7_checksum 136 = .ok (.getfield 7, 3) := by decide +kernel
theorem dX7_checksum_139 : decode cX7_checksum 139 = .ok (.bipush 10, 2) := by decide +kernel
theorem dX7_checksum_141 : decode cX7_checksum 141 = .ok (.iaload, 1) := by decide +kernel
theorem dX7_checksum_142 : decode cX7_checksum 142 = .ok (.i2l, 1) := by decide +kernel
theorem dX7_checksum_143 : decode cX7_checksum 143 = .ok (.ladd, 1) := by decide +kernel
theorem dX7_checksum_144 : decode cX7_checksum 144 = .ok (.lstore_n 1, 1) := by decide +kernel
theorem dX7_checksum_145 : decode cX7_checksum 145 = .ok (.ldc2_w 403, 3) := by decide +kernel
theorem dX7_checksum_148 : decode cX7_checksum 148 = .ok (.lload_n 1, 1) := by decide +kernel
theorem dX7_checksum_149 : decode cX7_checksum 149 = .ok (.lmul, 1) := by decide +kernel
theorem dX7_checksum_150 : decode cX7_checksum 150 = .ok (.aload_n 0, 1) := by decide +kernel
theorem dX7_checksum_151 : decode cX7_checksum 151 = .ok (.getfield 7, 3) := by decide +kernel
theorem dX7_checksum_154 : decode cX7_checksum 154 = .ok (.bipush 11, 2) := by decide +kernel
theorem dX7_checksum_156 : decode cX7_checksum 156 = .ok (.iaload, 1) := by decide +kernel
theorem dX7_checksum_157 : decode cX7_checksum 157 = .ok (.i2l, 1) := by decide +kernel
theorem dX7_checksum_158 : decode cX7_checksum 158 = .ok (.ladd, 1) := by decide +kernel
theorem dX7_checksum_159 : decode cX7_checksum 159 = .ok (.lstore_n 1, 1) := by decide +kernel
theorem dX7_checksum_160 : decode cX7_checksum 160 = .ok (.iconst 0, 1) := by decide +kernel
theorem dX7_checksum_161 : decode cX7_checksum 161 = .ok (.istore_n 3, 1) := by decide +kernel
theorem dX7_checksum_162 : decode cX7_checksum 162 = .ok (.iload_n 3, 1) := by decide +kernel
theorem dX7_checksum_163 : decode cX7_checksum 163 = .ok (.iconst 4, 1) := by decide +kernel
theorem dX7_checksum_164 : decode cX7_checksum 164 = .ok (.aload_n 0, 1) := by decide +kernel
theorem dX7_checksum_165 : decode cX7_checksum 165 = .ok (.getfield 7, 3) := by decide +kernel
theorem dX7_checksum_168 : decode cX7_checksum 168 = .ok (.bipush 11, 2) := by decide +kernel
theorem dX7_checksum_170 : decode cX7_checksum 170 = .ok (.iaload, 1) := by decide +kernel
theorem dX7_checksum_171 : decode cX7_checksum 171 = .ok (.imul, 1) := by decide +kernel
theorem dX7_checksum_172 : decode cX7_checksum 172 = .ok (.if_icmp .ge 26, 3) := by decide +kernel
theorem dX7_checksum_175 : decode cX7_checksum 175 = .ok (.ldc2_w 403, 3) := by decide +kernel
theorem dX7_checksum_178 : decode cX7_checksum 178 = .ok (.lload_n 1, 1) := by decide +kernel
theorem dX7_checksum_179 : decode cX7_checksum 179 = .ok (.lmul, 1) := by decide +kernel
theorem dX7_checksum_180 : decode cX7_checksum 180 = .ok (.aload_n 0, 1) := by decide +kernel
theorem dX7_checksum_181 : decode cX7_checksum 181 = .ok (.getfield 7, 3) := by decide +kernel
theorem dX7_checksum_184 : decode cX7_checksum 184 = .ok (.bipush 12, 2) := by decide +kernel
theorem dX7_checksum_186 : decode cX7_checksum 186 = .ok (.iload_n 3, 1) := by decide +kernel
theorem dX7_checksum_187 : decode cX7_checksum 187 = .ok (.iadd, 1) := by decide +kernel
theorem dX7_checksum_188 : decode cX7_checksum 188 = .ok (.iaload, 1) := by decide +kernel
theorem dX7_checksum_189 : decode cX7_checksum 189 = .ok (.i2l, 1) := by decide +kernel
theorem dX7_checksum_190 : decode cX7_checksum 190 = .ok (.ladd, 1) := by decide +kernel
theorem dX7_checksum_191 : decode cX7_checksum 191 = .ok (.lstore_n 1, 1) := by decide +kernel
theorem dX7_checksum_192 : decode cX7_checksum 192 = .ok (.iinc 3 1, 3) := by decide +kernel
theorem dX7_checksum_195 : decode cX7_checksum 195 = .ok (.goto (-33), 3) := by decide +kernel
theorem dX7_checksum_198 : decode cX7_checksum 198 = .ok (.lload_n 1, 1) := by decide +kernel
theorem dX7_checksum_199 : decode cX7_checksum 199 = .ok (.lreturn, 1) := by decide +kernel
theorem dJ9_max_7cf53_0 : decode cJ9_max_7cf53 0 = .ok (.iload_n 0, 1) := by decide +kernel
theorem dJ9_max_7cf53_1 : decode cJ9_max_7cf53 1 = .ok (.iload_n 1, 1) := by decide +kernel
theorem dJ9_max_7cf53_2 : decode cJ9_max_7cf53 2 = .ok (.if_icmp .lt 7, 3) := by decide +kernel
theorem dJ9_max_7cf53_5 : decode cJ9_max_7cf53 5 = .ok (.iload_n 0, 1) := by decide +kernel
theorem dJ9_max_7cf53_6 : decode cJ9_max_7cf53 6 = .ok (.goto 4, 3) := by decide +kernel
theorem dJ9_max_7cf53_9 : decode cJ9_max_7cf53 9 = .ok (.iload_n 1, 1) := by decide +kernel
theorem dJ9_max_7cf53_10 : decode cJ9_max_7cf53 10 = .ok (.ireturn, 1) := by decide +kernel
theorem dJ9_min_7cf53_0 : decode cJ9_min_7cf53 0 = .ok (.iload_n 0, 1) := by decide +kernel
theorem dJ9_min_7cf53_1 : decode cJ9_min_7cf53 1 = .ok (.iload_n 1, 1) := by decide +kernel
theorem dJ9_min_7cf53_2 : decode cJ9_min_7cf53 2 = .ok (.if_icmp .gt 7, 3) := by decide +kernel
theorem dJ9_min_7cf53_5 : decode cJ9_min_7cf53 5 = .ok (.iload_n 0, 1) := by decide +kernel
theorem dJ9_min_7cf53_6 : decode cJ9_min_7cf53 6 = .ok (.goto 4, 3) := by decide +kernel
theorem dJ9_min_7cf53_9 : decode cJ9_min_7cf53 9 = .ok (.iload_n 1, 1) := by decide +kernel
theorem dJ9_min_7cf53_10 : decode cJ9_min_7cf53 10 = .ok (.ireturn, 1) := by decide +kernel
theorem dJ0_length_8abf5_0 : decode cJ0_length_8abf5 0 = .ok (.aload_n 0, 1) := by decide +kernel
theorem dJ0_length_8abf5_1 : decode cJ0_length_8abf5 1 = .ok (.getfield 9, 3) := by decide +kernel
theorem dJ0_length_8abf5_4 : decode cJ0_length_8abf5 4 = .ok (.arraylength, 1) := by decide +kernel
theorem dJ0_length_8abf5_5 : decode cJ0_length_8abf5 5 = .ok (.aload_n 0, 1) := by decide +kernel
theorem dJ0_length_8abf5_6 : decode cJ0_length_8abf5 6 = .ok (.invokevirtual 335, 3) := by decide +kernel
theorem dJ0_length_8abf5_9 : decode cJ0_length_8abf5 9 = .ok (.ishr, 1) := by decide +kernel
theorem dJ0_length_8abf5_10 : decode cJ0_length_8abf5 10 = .ok (.ireturn, 1) := by decide +kernel
theorem dJ0_charAt_5068e_0 : decode cJ0_charAt_5068e 0 = .ok (.aload_n 0, 1) := by decide +kernel
theorem dJ0_charAt_5068e_1 : decode cJ0_charAt_5068e 1 = .ok (.invokevirtual 492, 3) := by decide +kernel
theorem dJ0_charAt_5068e_4 : decode cJ0_charAt_5068e 4 = .ok (.ifCond .eq 12, 3) := by decide +kernel
theorem dJ0_charAt_5068e_7 : decode cJ0_charAt_5068e 7 = .ok (.aload_n 0, 1) := by decide +kernel
theorem dJ0_charAt_5068e_8 : decode cJ0_charAt_5068e 8 = .ok (.getfield 9, 3) := by decide +kernel
theorem dJ0_charAt_5068e_11 : decode cJ0_charAt_5068e 11 = .ok (.iload_n 1, 1) := by decide +kernel
theorem dJ0_charAt_5068e_12 : decode cJ0_charAt_5068e 12 = .ok (.invokestatic 495, 3) := by decide +kernel
theorem dJ0_charAt_5068e_15 : decode cJ0_charAt_5068e 15 = .ok (.ireturn, 1) := by decide +kernel
theorem dJ0_charAt_5068e_16 : decode cJ0_charAt_5068e 16 = .ok (.aload_n 0, 1) := by decide +kernel
theorem dJ0_charAt_5068e_17 : decode cJ0_charAt_5068e 17 = .ok (.getfield 9, 3) := by decide +kernel
theorem dJ0_charAt_5068e_20 : decode cJ0_charAt_5068e 20 = .ok (.iload_n 1, 1) := by decide +kernel
theorem dJ0_charAt_5068e_21 : decode cJ0_charAt_5068e 21 = .ok (.invokestatic 498, 3) := by decide +kernel
theorem dJ0_charAt_5068e_24 : decode cJ0_charAt_5068e 24 = .ok (.ireturn, 1) := by decide +kernel
theorem dJ0_coder_7d493_0 : decode cJ0_coder_7d493 0 = .ok (.getstatic 38, 3) := by decide +kernel
theorem dJ0_coder_7d493_3 : decode cJ0_coder_7d493 3 = .ok (.ifCond .eq 10, 3) := by decide +kernel
theorem dJ0_coder_7d493_6 : decode cJ0_coder_7d493 6 = .ok (.aload_n 0, 1) := by decide +kernel
theorem dJ0_coder_7d493_7 : decode cJ0_coder_7d493 7 = .ok (.getfield 15, 3) := by decide +kernel
theorem dJ0_coder_7d493_10 : decode cJ0_coder_7d493 10 = .ok (.goto 4, 3) := by decide +kernel
theorem dJ0_coder_7d493_13 : decode cJ0_coder_7d493 13 = .ok (.iconst 1, 1) := by decide +kernel
theorem dJ0_coder_7d493_14 : decode cJ0_coder_7d493 14 = .ok (.ireturn, 1) := by decide +kernel
theorem dJ0_isLatin1_aae02_0 : decode cJ0_isLatin1_aae02 0 = .ok (.getstatic 38, 3) := by decide +kernel
theorem dJ0_isLatin1_aae02_3 : decode cJ0_isLatin1_aae02 3 = .ok (.ifCond .eq 14, 3) := by decide +kernel
theorem dJ0_isLatin1_aae02_6 : decode cJ0_isLatin1_aae02 6 = .ok (.aload_n 0, 1) := by decide +kernel
theorem dJ0_isLatin1_aae02_7 : decode cJ0_isLatin1_aae02 7 = .ok (.getfield 15, 3) := by decide +kernel
theorem dJ0_isLatin1_aae02_10 : decode cJ0_isLatin1_aae02 10 = .ok (.ifCond .ne 7, 3) := by decide +kernel
theorem dJ0_isLatin1_aae02_13 : decode cJ0_isLatin1_aae02 13 = .ok (.iconst 1, 1) := by decide +kernel
theorem dJ0_isLatin1_aae02_14 : decode cJ0_isLatin1_aae02 14 = .ok (.goto 4, 3) := by decide +kernel
theorem dJ0_isLatin1_aae02_17 : decode cJ0_isLatin1_aae02 17 = .ok (.iconst 0, 1) := by decide +kernel
theorem dJ0_isLatin1_aae02_18 : decode cJ0_isLatin1_aae02 18 = .ok (.ireturn, 1) := by decide +kernel
theorem dJ0_checkIndex_df160_0 : decode cJ0_checkIndex_df160 0 = .ok (.iload_n 0, 1) := by decide +kernel
theorem dJ0_checkIndex_df160_1 : decode cJ0_checkIndex_df160 1 = .ok (.iload_n 1, 1) := by decide +kernel
theorem dJ0_checkIndex_df160_2 : decode cJ0_checkIndex_df160 2 = .ok (.getstatic 1053, 3) := by decide +kernel
theorem dJ0_checkIndex_df160_5 : decode cJ0_checkIndex_df160 5 = .ok (.invokestatic 1059, 3) := by decide +kernel
theorem dJ0_checkIndex_df160_8 : decode cJ0_checkIndex_df160 8 = .ok (.pop, 1) := by decide +kernel
theorem dJ0_checkIndex_df160_9 : decode cJ0_checkIndex_df160 9 = .ok (.return_, 1) := by decide +kernel
theorem dJ1_charAt_3b067_0 : decode cJ1_charAt_3b067 0 = .ok (.iload_n 1, 1) := by decide +kernel
theorem dJ1_charAt_3b067_1 : decode cJ1_charAt_3b067 1 = .ok (.aload_n 0, 1) := by decide +kernel
theorem dJ1_charAt_3b067_2 : decode cJ1_charAt_3b067 2 = .ok (.arraylength, 1) := by decide +kernel
theorem dJ1_charAt_3b067_3 : decode cJ1_charAt_3b067 3 = .ok (.invokestatic 9, 3) := by decide +kernel
theorem dJ1_charAt_3b067_6 : decode cJ1_charAt_3b067 6 = .ok (.aload_n 0, 1) := by decide +kernel
theorem dJ1_charAt_3b067_7 : decode cJ1_charAt_3b067 7 = .ok (.iload_n 1, 1) := by decide +kernel
theorem dJ1_charAt_3b067_8 : decode cJ1_charAt_3b067 8 = .ok (.baload, 1) := by decide +kernel
theorem dJ1_charAt_3b067_9 : decode cJ1_charAt_3b067 9 = .ok (.sipush 255, 3) := by decide +kernel
theorem dJ1_charAt_3b067_12 : decode cJ1_charAt_3b067 12 = .ok (.iand, 1) := by decide +kernel
theorem dJ1_charAt_3b067_13 : decode cJ1_charAt_3b067 13 = .ok (.i2c, 1) := by decide +kernel
theorem dJ1_charAt_3b067_14 : decode cJ1_charAt_3b067 14 = .ok (.ireturn, 1) := by decide +kernel
theorem dJ2_getChar_3b067_0 : decode cJ2_getChar_3b067 0 = .ok (.getstatic 44, 3) := by decide +kernel
theorem dJ2_getChar_3b067_3 : decode cJ2_getChar_3b067 3 = .ok (.ifCond .ne 25, 3) := by decide +kernel
theorem dJ2_getChar_3b067_6 : decode cJ2_getChar_3b067 6 = .ok (.iload_n 1, 1) := by decide +kernel
theorem dJ2_getChar_3b067_7 : decode cJ2_getChar_3b067 7 = .ok (.ifCond .lt 11, 3) := by decide +kernel
theorem dJ2_getChar_3b067_10 : decode cJ2_getChar_3b067 10 = .ok (.iload_n 1, 1) := by decide +kernel
theorem dJ2_getChar_3b067_11 : decode cJ2_getChar_3b067 11 = .ok (.aload_n 0, 1) := by decide +kernel
theorem dJ2_getChar_3b067_12 : decode cJ2_getChar_3b067 12 = .ok (.invokestatic 48, 3) := by decide +kernel
theorem dJ2_getChar_3b067_15 : decode cJ2_getChar_3b067 15 = .ok (.if_icmp .lt 13, 3) := by decide +kernel
theorem dJ2_getChar_3b067_18 : decode cJ2_getChar_3b067 18 = .ok (.new 52, 3) := by decide +kernel
theorem dJ2_getChar_3b067_21 : decode cJ2_getChar_3b067 21 = .ok (.dup, 1) := by decide +kernel
theorem dJ2_getChar_3b067_22 : decode cJ2_getChar_3b067 22 = .ok (.ldc 54, 2) := by decide +kernel
theorem dJ2_getChar_3b067_24 : decode cJ2_getChar_3b067 24 = .ok (.invokespecial 56, 3) := by decide +kernel
theorem dJ2_getChar_3b067_27 : decode cJ2_getChar_3b067 27 = .ok (.athrow, 1) := by decide +kernel
theorem dJ2_getChar_3b067_28 : decode cJ2_getChar_3b067 28 = .ok (.iload_n 1, 1) := by decide +kernel
theorem dJ2_getChar_3b067_29 : decode cJ2_getChar_3b067 29 = .ok (.iconst 1, 1) := by decide +kernel
theorem dJ2_getChar_3b067_30 : decode cJ2_getChar_3b067 30 = .ok (.ishl, 1) := by decide +kernel
theorem dJ2_getChar_3b067_31 : decode cJ2_getChar_3b067 31 = .ok (.istore_n 1, 1) := by decide +kernel
theorem dJ2_getChar_3b067_32 : decode cJ2_getChar_3b067 32 = .ok (.aload_n 0, 1) := by decide +kernel
theorem dJ2_getChar_3b067_33 : decode cJ2_getChar_3b067 33 = .ok (.iload_n 1, 1) := by decide +kernel
theorem dJ2_getChar_3b067_34 : decode cJ2_getChar_3b067 34 = .ok (.iinc 1 1, 3) := by decide +kernel
theorem dJ2_getChar_3b067_37 : decode cJ2_getChar_3b067 37 = .ok (.baload, 1) := by decide +kernel
theorem dJ2_getChar_3b067_38 : decode cJ2_getChar_3b067 38 = .ok (.sipush 255, 3) := by decide +kernel
theorem dJ2_getChar_3b067_41 : decode cJ2_getChar_3b067 41 = .ok (.iand, 1) := by decide +kernel
theorem dJ2_getChar_3b067_42 : decode cJ2_getChar_3b067 42 = .ok (.getstatic 59, 3) := by decide +kernel
theorem dJ2_getChar_3b067_45 : decode cJ2_getChar_3b067 45 = .ok (.ishl, 1) := by decide +kernel
theorem dJ2_getChar_3b067_46 : decode cJ2_getChar_3b067 46 = .ok (.aload_n 0, 1) := by decide +kernel
theorem dJ2_getChar_3b067_47 : decode cJ2_getChar_3b067 47 = .ok (.iload_n 1, 1) := by decide +kernel
theorem dJ2_getChar_3b067_48 : decode cJ2_getChar_3b067 48 = .ok (.baload, 1) := by decide +kernel
theorem dJ2_getChar_3b067_49 : decode cJ2_getChar_3b067 49 = .ok (.sipush 255, 3) := by decide +kernel
theorem dJ2_getChar_3b067_52 : decode cJ2_getChar_3b067 52 = .ok (.iand, 1) := by decide +kernel
theorem dJ2_getChar_3b067_53 : decode cJ2_getChar_3b067 53 = .ok (.getstatic 63, 3) := by decide +kernel
theorem dJ2_getChar_3b067_56 : decode cJ2_getChar_3b067 56 = .ok (.ishl, 1) := by decide +kernel
theorem dJ2_getChar_3b067_57 : decode cJ2_getChar_3b067 57 = .ok (.ior, 1) := by decide +kernel
theorem dJ2_getChar_3b067_58 : decode cJ2_getChar_3b067 58 = .ok (.i2c, 1) := by decide +kernel
theorem dJ2_getChar_3b067_59 : decode cJ2_getChar_3b067 59 = .ok (.ireturn, 1) := by decide +kernel
theorem dJ2_length_9d52b_0 : decode cJ2_length_9d52b 0 = .ok (.aload_n 0, 1) := by decide +kernel
theorem dJ2_length_9d52b_1 : decode cJ2_length_9d52b 1 = .ok (.arraylength, 1) := by decide +kernel
theorem dJ2_length_9d52b_2 : decode cJ2_length_9d52b 2 = .ok (.iconst 1, 1) := by decide +kernel
theorem dJ2_length_9d52b_3 : decode cJ2_length_9d52b 3 = .ok (.ishr, 1) := by decide +kernel
theorem dJ2_length_9d52b_4 : decode cJ2_length_9d52b 4 = .ok (.ireturn, 1) := by decide +kernel
theorem dJ2_charAt_3b067_0 : decode cJ2_charAt_3b067 0 = .ok (.iload_n 1, 1) := by decide +kernel
theorem dJ2_charAt_3b067_1 : decode cJ2_charAt_3b067 1 = .ok (.aload_n 0, 1) := by decide +kernel
theorem dJ2_charAt_3b067_2 : decode cJ2_charAt_3b067 2 = .ok (.invokestatic 67, 3) := by decide +kernel
theorem dJ2_charAt_3b067_5 : decode cJ2_charAt_3b067 5 = .ok (.aload_n 0, 1) := by decide +kernel
theorem dJ2_charAt_3b067_6 : decode cJ2_charAt_3b067 6 = .ok (.iload_n 1, 1) := by decide +kernel
theorem dJ2_charAt_3b067_7 : decode cJ2_charAt_3b067 7 = .ok (.invokestatic 71, 3) := by decide +kernel
theorem dJ2_charAt_3b067_10 : decode cJ2_charAt_3b067 10 = .ok (.ireturn, 1) := by decide +kernel
theorem dJ2_checkIndex_2214a_0 : decode cJ2_checkIndex_2214a 0 = .ok (.iload_n 0, 1) := by decide +kernel
theorem dJ2_checkIndex_2214a_1 : decode cJ2_checkIndex_2214a 1 = .ok (.aload_n 1, 1) := by decide +kernel
theorem dJ2_checkIndex_2214a_2 : decode cJ2_checkIndex_2214a 2 = .ok (.invokestatic 48, 3) := by decide +kernel
theorem dJ2_checkIndex_2214a_5 : decode cJ2_checkIndex_2214a 5 = .ok (.invokestatic 414, 3) := by decide +kernel
theorem dJ2_checkIndex_2214a_8 : decode cJ2_checkIndex_2214a 8 = .ok (.return_, 1) := by decide +kernel
theorem dJ7_fill_53178_0 : decode cJ7_fill_53178 0 = .ok (.iconst 0, 1) := by decide +kernel
theorem dJ7_fill_53178_1 : decode cJ7_fill_53178 1 = .ok (.istore_n 2, 1) := by decide +kernel
theorem dJ7_fill_53178_2 : decode cJ7_fill_53178 2 = .ok (.aload_n 0, 1) := by decide +kernel
theorem dJ7_fill_53178_3 : decode cJ7_fill_53178 3 = .ok (.arraylength, 1) := by decide +kernel
theorem dJ7_fill_53178_4 : decode cJ7_fill_53178 4 = .ok (.istore_n 3, 1) := by decide +kernel
theorem dJ7_fill_53178_5 : decode cJ7_fill_53178 5 = .ok (.iload_n 2, 1) := by decide +kernel
theorem dJ7_fill_53178_6 : decode cJ7_fill_53178 6 = .ok (.iload_n 3, 1) := by decide +kernel
theorem dJ7_fill_53178_7 : decode cJ7_fill_53178 7 = .ok (.if_icmp .ge 13, 3) := by decide +kernel
theorem dJ7_fill_53178_10 : decode cJ7_fill_53178 10 = .ok (.aload_n 0, 1) := by decide +kernel
theorem dJ7_fill_53178_11 : decode cJ7_fill_53178 11 = .ok (.iload_n 2, 1) := by decide +kernel
theorem dJ7_fill_53178_12 : decode cJ7_fill_53178 12 = .ok (.iload_n 1, 1) := by decide +kernel
theorem dJ7_fill_53178_13 : decode cJ7_fill_53178 13 = .ok (.iastore, 1) := by decide +kernel
theorem dJ7_fill_53178_14 : decode cJ7_fill_53178 14 = .ok (.iinc 2 1, 3) := by decide +kernel
theorem dJ7_fill_53178_17 : decode cJ7_fill_53178 17 = .ok (.goto (-12), 3) := by decide +kernel
theorem dJ7_fill_53178_20 : decode cJ7_fill_53178 20 = .ok (.return_, 1) := by decide +kernel
theorem dJ3_checkIndex_8e157_0 : decode cJ3_checkIndex_8e157 0 = .ok (.iload_n 0, 1) := by decide +kernel
theorem dJ3_checkIndex_8e157_1 : decode cJ3_checkIndex_8e157 1 = .ok (.ifCond .lt 8, 3) := by decide +kernel
theorem dJ3_checkIndex_8e157_4 : decode cJ3_checkIndex_8e157 4 = .ok (.iload_n 0, 1) := by decide +kernel
theorem dJ3_checkIndex_8e157_5 : decode cJ3_checkIndex_8e157 5 = .ok (.iload_n 1, 1) := by decide +kernel
theorem dJ3_checkIndex_8e157_6 : decode cJ3_checkIndex_8e157 6 = .ok (.if_icmp .lt 10, 3) := by decide +kernel
theorem dJ3_checkIndex_8e157_9 : decode cJ3_checkIndex_8e157 9 = .ok (.aload_n 2, 1) := by decide +kernel
theorem dJ3_checkIndex_8e157_10 : decode cJ3_checkIndex_8e157 10 = .ok (.iload_n 0, 1) := by decide +kernel
theorem dJ3_checkIndex_8e157_11 : decode cJ3_checkIndex_8e157 11 = .ok (.iload_n 1, 1) := by decide +kernel
theorem dJ3_checkIndex_8e157_12 : decode cJ3_checkIndex_8e157 12 = .ok (.invokestatic 95, 3) := by decide +kernel
theorem dJ3_checkIndex_8e157_15 : decode cJ3_checkIndex_8e157 15 = .ok (.athrow, 1) := by decide +kernel
theorem dJ3_checkIndex_8e157_16 : decode cJ3_checkIndex_8e157 16 = .ok (.iload_n 0, 1) := by decide +kernel
theorem dJ3_checkIndex_8e157_17 : decode cJ3_checkIndex_8e157 17 = .ok (.ireturn, 1) := by decide +kernel
