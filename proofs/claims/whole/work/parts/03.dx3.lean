theorem dX7_laysValues_38 : decode cX7_laysValues 38 = .ok (.iload_n 2, 1) := by decide +kernel
theorem dX7_laysValues_39 : decode cX7_laysValues 39 = .ok (.iload_n 3, 1) := by decide +kernel
theorem dX7_laysValues_40 : decode cX7_laysValues 40 = .ok (.invokevirtual 92, 3) := by decide +kernel
theorem dX7_laysValues_43 : decode cX7_laysValues 43 = .ok (.ifCond .eq 20, 3) := by decide +kernel
theorem dX7_laysValues_46 : decode cX7_laysValues 46 = .ok (.aload_n 0, 1) := by decide +kernel
theorem dX7_laysValues_47 : decode cX7_laysValues 47 = .ok (.getfield 54, 3) := by decide +kernel
theorem dX7_laysValues_50 : decode cX7_laysValues 50 = .ok (.aload_n 0, 1) := by decide +kernel
theorem dX7_laysValues_51 : decode cX7_laysValues 51 = .ok (.iload_n 1, 1) := by decide +kernel
theorem dX7_laysValues_52 : decode cX7_laysValues 52 = .ok (.iload_n 2, 1) := by decide +kernel
theorem dX7_laysValues_53 : decode cX7_laysValues 53 = .ok (.iload_n 3, 1) := by decide +kernel
theorem dX7_laysValues_54 : decode cX7_laysValues 54 = .ok (.isub, 1) := by decide +kernel
theorem dX7_laysValues_55 : decode cX7_laysValues 55 = .ok (.invokevirtual 101, 3) := by decide +kernel
theorem dX7_laysValues_58 : decode cX7_laysValues 58 = .ok (.aload_n 0, 1) := by decide +kernel
theorem dX7_laysValues_59 : decode cX7_laysValues 59 = .ok (.getfield 95, 3) := by decide +kernel
theorem dX7_laysValues_62 : decode cX7_laysValues 62 = .ok (.iastore, 1) := by decide +kernel
theorem dX7_laysValues_63 : decode cX7_laysValues 63 = .ok (.iinc 3 1, 3) := by decide +kernel
theorem dX7_laysValues_66 : decode cX7_laysValues 66 = .ok (.goto (-35), 3) := by decide +kernel
theorem dX7_laysValues_69 : decode cX7_laysValues 69 = .ok (.aload_n 0, 1) := by decide +kernel
theorem dX7_laysValues_70 : decode cX7_laysValues 70 = .ok (.getfield 44, 3) := by decide +kernel
theorem dX7_laysValues_73 : decode cX7_laysValues 73 = .ok (.sipush 301, 3) := by decide +kernel
theorem dX7_laysValues_76 : decode cX7_laysValues 76 = .ok (.iload_n 1, 1) := by decide +kernel
theorem dX7_laysValues_77 : decode cX7_laysValues 77 = .ok (.imul, 1) := by decide +kernel
theorem dX7_laysValues_78 : decode cX7_laysValues 78 = .ok (.iload_n 2, 1) := by decide +kernel
theorem dX7_laysValues_79 : decode cX7_laysValues 79 = .ok (.iadd, 1) := by decide +kernel
theorem dX7_laysValues_80 : decode cX7_laysValues 80 = .ok (.aload_n 0, 1) := by decide +kernel
theorem dX7_laysValues_81 : decode cX7_laysValues 81 = .ok (.invokevirtual 105, 3) := by decide +kernel
theorem dX7_laysValues_84 : decode cX7_laysValues 84 = .ok (.iastore, 1) := by decide +kernel
theorem dX7_laysValues_85 : decode cX7_laysValues 85 = .ok (.iinc 2 1, 3) := by decide +kernel
theorem dX7_laysValues_88 : decode cX7_laysValues 88 = .ok (.goto (-76), 3) := by decide +kernel
theorem dX7_laysValues_91 : decode cX7_laysValues 91 = .ok (.iconst 0, 1) := by decide +kernel
theorem dX7_laysValues_92 : decode cX7_laysValues 92 = .ok (.istore_n 2, 1) := by decide +kernel
theorem dX7_laysValues_93 : decode cX7_laysValues 93 = .ok (.iload_n 2, 1) := by decide +kernel
theorem dX7_laysValues_94 : decode cX7_laysValues 94 = .ok (.bipush 15, 2) := by decide +kernel
theorem dX7_laysValues_96 : decode cX7_laysValues 96 = .ok (.if_icmp .gt 61, 3) := by decide +kernel
theorem dX7_laysValues_99 : decode cX7_laysValues 99 = .ok (.aload_n 0, 1) := by decide +kernel
theorem dX7_laysValues_100 : decode cX7_laysValues 100 = .ok (.getfield 57, 3) := by decide +kernel
theorem dX7_laysValues_103 : decode cX7_laysValues 103 = .ok (.bipush 16, 2) := by decide +kernel
theorem dX7_laysValues_105 : decode cX7_laysValues 105 = .ok (.iload_n 1, 1) := by decide +kernel
theorem dX7_laysValues_106 : decode cX7_laysValues 106 = .ok (.imul, 1) := by decide +kernel
theorem dX7_laysValues_107 : decode cX7_laysValues 107 = .ok (.iload_n 2, 1) := by decide +kernel
theorem dX7_laysValues_108 : decode cX7_laysValues 108 = .ok (.iadd, 1) := by decide +kernel
theorem dX7_laysValues_109 : decode cX7_laysValues 109 = .ok (.iconst 0, 1) := by decide +kernel
theorem dX7_laysValues_110 : decode cX7_laysValues 110 = .ok (.iastore, 1) := by decide +kernel
theorem dX7_laysValues_111 : decode cX7_laysValues 111 = .ok (.iconst 1, 1) := by decide +kernel
theorem dX7_laysValues_112 : decode cX7_laysValues 112 = .ok (.istore_n 3, 1) := by decide +kernel
theorem dX7_laysValues_113 : decode cX7_laysValues 113 = .ok (.iload_n 3, 1) := by decide +kernel
theorem dX7_laysValues_114 : decode cX7_laysValues 114 = .ok (.iload_n 2, 1) := by decide +kernel
theorem dX7_laysValues_115 : decode cX7_laysValues 115 = .ok (.if_icmp .gt 36, 3) := by decide +kernel
theorem dX7_laysValues_118 : decode cX7_laysValues 118 = .ok (.aload_n 0, 1) := by decide +kernel
theorem dX7_laysValues_119 : decode cX7_laysValues 119 = .ok (.iload_n 1, 1) := by decide +kernel
theorem dX7_laysValues_120 : decode cX7_laysValues 120 = .ok (.iload_n 2, 1) := by decide +kernel
theorem dX7_laysValues_121 : decode cX7_laysValues 121 = .ok (.iload_n 3, 1) := by decide +kernel
theorem dX7_laysValues_122 : decode cX7_laysValues 122 = .ok (.invokevirtual 92, 3) := by decide +kernel
theorem dX7_laysValues_125 : decode cX7_laysValues 125 = .ok (.ifCond .eq 20, 3) := by decide +kernel
theorem dX7_laysValues_128 : decode cX7_laysValues 128 = .ok (.aload_n 0, 1) := by decide +kernel
theorem dX7_laysValues_129 : decode cX7_laysValues 129 = .ok (.getfield 57, 3) := by decide +kernel
theorem dX7_laysValues_132 : decode cX7_laysValues 132 = .ok (.bipush 16, 2) := by decide +kernel
theorem dX7_laysValues_134 : decode cX7_laysValues 134 = .ok (.iload_n 1, 1) := by decide +kernel
theorem dX7_laysValues_135 : decode cX7_laysValues 135 = .ok (.imul, 1) := by decide +kernel
theorem dX7_laysValues_136 : decode cX7_laysValues 136 = .ok (.iload_n 2, 1) := by decide +kernel
theorem dX7_laysValues_137 : decode cX7_laysValues 137 = .ok (.iadd, 1) := by decide +kernel
theorem dX7_laysValues_138 : decode cX7_laysValues 138 = .ok (.dup2, 1) := by decide +kernel
theorem dX7_laysValues_139 : decode cX7_laysValues 139 = .ok (.iaload, 1) := by decide +kernel
theorem dX7_laysValues_140 : decode cX7_laysValues 140 = .ok (.iconst 1, 1) := by decide +kernel
theorem dX7_laysValues_141 : decode cX7_laysValues 141 = .ok (.iload_n 3, 1) := by decide +kernel
theorem dX7_laysValues_142 : decode cX7_laysValues 142 = .ok (.ishl, 1) := by decide +kernel
theorem dX7_laysValues_143 : decode cX7_laysValues 143 = .ok (.ior, 1) := by decide +kernel
theorem dX7_laysValues_144 : decode cX7_laysValues 144 = .ok (.iastore, 1) := by decide +kernel
theorem dX7_laysValues_145 : decode cX7_laysValues 145 = .ok (.iinc 3 1, 3) := by decide +kernel
theorem dX7_laysValues_148 : decode cX7_laysValues 148 = .ok (.goto (-35), 3) := by decide +kernel
theorem dX7_laysValues_151 : decode cX7_laysValues 151 = .ok (.iinc 2 1, 3) := by decide +kernel
theorem dX7_laysValues_154 : decode cX7_laysValues 154 = .ok (.goto (-61), 3) := by decide +kernel
theorem dX7_laysValues_157 : decode cX7_laysValues 157 = .ok (.iinc 1 1, 3) := by decide +kernel
theorem dX7_laysValues_160 : decode cX7_laysValues 160 = .ok (.goto (-158), 3) := by decide +kernel
theorem dX7_laysValues_163 : decode cX7_laysValues 163 = .ok (.return_, 1) := by decide +kernel
theorem dX7_goesOn_0 : decode cX7_goesOn 0 = .ok (.iload_n 3, 1) := by decide +kernel
theorem dX7_goesOn_1 : decode cX7_goesOn 1 = .ok (.istore 5, 2) := by decide +kernel
theorem dX7_goesOn_3 : decode cX7_goesOn 3 = .ok (.iload 5, 2) := by decide +kernel
theorem dX7_goesOn_5 : decode cX7_goesOn 5 = .ok (.iload_n 2, 1) := by decide +kernel
theorem dX7_goesOn_6 : decode cX7_goesOn 6 = .ok (.iadd, 1) := by decide +kernel
theorem dX7_goesOn_7 : decode cX7_goesOn 7 = .ok (.iload 4, 2) := by decide +kernel
theorem dX7_goesOn_9 : decode cX7_goesOn 9 = .ok (.if_icmp .gt 30, 3) := by decide +kernel
theorem dX7_goesOn_12 : decode cX7_goesOn 12 = .ok (.aload_n 0, 1) := by decide +kernel
theorem dX7_goesOn_13 : decode cX7_goesOn 13 = .ok (.iload_n 1, 1) := by decide +kernel
theorem dX7_goesOn_14 : decode cX7_goesOn 14 = .ok (.iload 5, 2) := by decide +kernel
theorem dX7_goesOn_16 : decode cX7_goesOn 16 = .ok (.invokevirtual 101, 3) := by decide +kernel
theorem dX7_goesOn_19 : decode cX7_goesOn 19 = .ok (.aload_n 0, 1) := by decide +kernel
theorem dX7_goesOn_20 : decode cX7_goesOn 20 = .ok (.iload_n 1, 1) := by decide +kernel
theorem dX7_goesOn_21 : decode cX7_goesOn 21 = .ok (.iload 5, 2) := by decide +kernel
theorem dX7_goesOn_23 : decode cX7_goesOn 23 = .ok (.iload_n 2, 1) := by decide +kernel
theorem dX7_goesOn_24 : decode cX7_goesOn 24 = .ok (.iadd, 1) := by decide +kernel
theorem dX7_goesOn_25 : decode cX7_goesOn 25 = .ok (.invokevirtual 101, 3) := by decide +kernel
theorem dX7_goesOn_28 : decode cX7_goesOn 28 = .ok (.if_icmp .eq 5, 3) := by decide +kernel
theorem dX7_goesOn_31 : decode cX7_goesOn 31 = .ok (.iconst 0, 1) := by decide +kernel
theorem dX7_goesOn_32 : decode cX7_goesOn 32 = .ok (.ireturn, 1) := by decide +kernel
theorem dX7_goesOn_33 : decode cX7_goesOn 33 = .ok (.iinc 5 1, 3) := by decide +kernel
theorem dX7_goesOn_36 : decode cX7_goesOn 36 = .ok (.goto (-33), 3) := by decide +kernel
theorem dX7_goesOn_39 : decode cX7_goesOn 39 = .ok (.iconst 1, 1) := by decide +kernel
theorem dX7_goesOn_40 : decode cX7_goesOn 40 = .ok (.ireturn, 1) := by decide +kernel
theorem dX7_periodOf_0 : decode cX7_periodOf 0 = .ok (.iconst 1, 1) := by decide +kernel
theorem dX7_periodOf_1 : decode cX7_periodOf 1 = .ok (.istore_n 3, 1) := by decide +kernel
theorem dX7_periodOf_2 : decode cX7_periodOf 2 = .ok (.iconst 2, 1) := by decide +kernel
theorem dX7_periodOf_3 : decode cX7_periodOf 3 = .ok (.iload_n 3, 1) := by decide +kernel
theorem dX7_periodOf_4 : decode cX7_periodOf 4 = .ok (.imul, 1) := by decide +kernel
theorem dX7_periodOf_5 : decode cX7_periodOf 5 = .ok (.iload_n 2, 1) := by decide +kernel
theorem dX7_periodOf_6 : decode cX7_periodOf 6 = .ok (.iconst 1, 1) := by decide +kernel
theorem dX7_periodOf_7 : decode cX7_periodOf 7 = .ok (.iadd, 1) := by decide +kernel
theorem dX7_periodOf_8 : decode cX7_periodOf 8 = .ok (.if_icmp .gt 28, 3) := by decide +kernel
theorem dX7_periodOf_11 : decode cX7_periodOf 11 = .ok (.aload_n 0, 1) := by decide +kernel
theorem dX7_periodOf_12 : decode cX7_periodOf 12 = .ok (.iload_n 1, 1) := by decide +kernel
theorem dX7_periodOf_13 : decode cX7_periodOf 13 = .ok (.iload_n 3, 1) := by decide +kernel
theorem dX7_periodOf_14 : decode cX7_periodOf 14 = .ok (.iload_n 2, 1) := by decide +kernel
theorem dX7_periodOf_15 : decode cX7_periodOf 15 = .ok (.iconst 1, 1) := by decide +kernel
theorem dX7_periodOf_16 : decode cX7_periodOf 16 = .ok (.iadd, 1) := by decide +kernel
theorem dX7_periodOf_17 : decode cX7_periodOf 17 = .ok (.iconst 2, 1) := by decide +kernel
theorem dX7_periodOf_18 : decode cX7_periodOf 18 = .ok (.iload_n 3, 1) := by decide +kernel
theorem dX7_periodOf_19 : decode cX7_periodOf 19 = .ok (.imul, 1) := by decide +kernel
theorem dX7_periodOf_20 : decode cX7_periodOf 20 = .ok (.isub, 1) := by decide +kernel
theorem dX7_periodOf_21 : decode cX7_periodOf 21 = .ok (.iload_n 2, 1) := by decide +kernel
theorem dX7_periodOf_22 : decode cX7_periodOf 22 = .ok (.invokevirtual 109, 3) := by decide +kernel
theorem dX7_periodOf_25 : decode cX7_periodOf 25 = .ok (.ifCond .eq 5, 3) := by decide +kernel
theorem dX7_periodOf_28 : decode cX7_periodOf 28 = .ok (.iload_n 3, 1) := by decide +kernel
theorem dX7_periodOf_29 : decode cX7_periodOf 29 = .ok (.ireturn, 1) := by decide +kernel
theorem dX7_periodOf_30 : decode cX7_periodOf 30 = .ok (.iinc 3 1, 3) := by decide +kernel
theorem dX7_periodOf_33 : decode cX7_periodOf 33 = .ok (.goto (-31), 3) := by decide +kernel
theorem dX7_periodOf_36 : decode cX7_periodOf 36 = .ok (.iconst (-1), 1) := by decide +kernel
theorem dX7_periodOf_37 : decode cX7_periodOf 37 = .ok (.ireturn, 1) := by decide +kernel
theorem dX7_startOf_0 : decode cX7_startOf 0 = .ok (.aload_n 0, 1) := by decide +kernel
theorem dX7_startOf_1 : decode cX7_startOf 1 = .ok (.iload_n 1, 1) := by decide +kernel
theorem dX7_startOf_2 : decode cX7_startOf 2 = .ok (.iload_n 2, 1) := by decide +kernel
theorem dX7_startOf_3 : decode cX7_startOf 3 = .ok (.invokevirtual 113, 3) := by decide +kernel
theorem dX7_startOf_6 : decode cX7_startOf 6 = .ok (.istore_n 3, 1) := by decide +kernel
theorem dX7_startOf_7 : decode cX7_startOf 7 = .ok (.iload_n 3, 1) := by decide +kernel
theorem dX7_startOf_8 : decode cX7_startOf 8 = .ok (.iconst (-1), 1) := by decide +kernel
theorem dX7_startOf_9 : decode cX7_startOf 9 = .ok (.if_icmp .ne 5, 3) := by decide +kernel
theorem dX7_startOf_12 : decode cX7_startOf 12 = .ok (.iconst (-1), 1) := by decide +kernel
theorem dX7_startOf_13 : decode cX7_startOf 13 = .ok (.ireturn, 1) := by decide +kernel
theorem dX7_startOf_14 : decode cX7_startOf 14 = .ok (.iconst 0, 1) := by decide +kernel
theorem dX7_startOf_15 : decode cX7_startOf 15 = .ok (.istore 4, 2) := by decide +kernel
theorem dX7_startOf_17 : decode cX7_startOf 17 = .ok (.aload_n 0, 1) := by decide +kernel
theorem dX7_startOf_18 : decode cX7_startOf 18 = .ok (.iload_n 1, 1) := by decide +kernel
theorem dX7_startOf_19 : decode cX7_startOf 19 = .ok (.iload_n 3, 1) := by decide +kernel
theorem dX7_startOf_20 : decode cX7_startOf 20 = .ok (.iload 4, 2) := by decide +kernel
theorem dX7_startOf_22 : decode cX7_startOf 22 = .ok (.iload_n 2, 1) := by decide +kernel
theorem dX7_startOf_23 : decode cX7_startOf 23 = .ok (.invokevirtual 109, 3) := by decide +kernel
theorem dX7_startOf_26 : decode cX7_startOf 26 = .ok (.ifCond .ne 9, 3) := by decide +kernel
theorem dX7_startOf_29 : decode cX7_startOf 29 = .ok (.iinc 4 1, 3) := by decide +kernel
theorem dX7_startOf_32 : decode cX7_startOf 32 = .ok (.goto (-15), 3) := by decide +kernel
theorem dX7_startOf_35 : decode cX7_startOf 35 = .ok (.iload 4, 2) := by decide +kernel
theorem dX7_startOf_37 : decode cX7_startOf 37 = .ok (.ireturn, 1) := by decide +kernel
theorem dX7_append_0 : decode cX7_append 0 = .ok (.aload_n 0, 1) := by decide +kernel
theorem dX7_append_1 : decode cX7_append 1 = .ok (.iconst 0, 1) := by decide +kernel
theorem dX7_append_2 : decode cX7_append 2 = .ok (.putfield 73, 3) := by decide +kernel
theorem dX7_append_5 : decode cX7_append 5 = .ok (.aload_n 0, 1) := by decide +kernel
theorem dX7_append_6 : decode cX7_append 6 = .ok (.getfield 116, 3) := by decide +kernel
theorem dX7_append_9 : decode cX7_append 9 = .ok (.bipush 20, 2) := by decide +kernel
theorem dX7_append_11 : decode cX7_append 11 = .ok (.iadd, 1) := by decide +kernel
theorem dX7_append_12 : decode cX7_append 12 = .ok (.sipush 400, 3) := by decide +kernel
theorem dX7_append_15 : decode cX7_append 15 = .ok (.if_icmp .le 5, 3) := by decide +kernel
theorem dX7_append_18 : decode cX7_append 18 = .ok (.iconst (-1), 1) := by decide +kernel
theorem dX7_append_19 : decode cX7_append 19 = .ok (.ireturn, 1) := by decide +kernel
theorem dX7_append_20 : decode cX7_append 20 = .ok (.iconst 0, 1) := by decide +kernel
theorem dX7_append_21 : decode cX7_append 21 = .ok (.istore 6, 2) := by decide +kernel
theorem dX7_append_23 : decode cX7_append 23 = .ok (.iload 6, 2) := by decide +kernel
theorem dX7_append_25 : decode cX7_append 25 = .ok (.bipush 20, 2) := by decide +kernel
theorem dX7_append_27 : decode cX7_append 27 = .ok (.if_icmp .ge 93, 3) := by decide +kernel
theorem dX7_append_30 : decode cX7_append 30 = .ok (.iload 6, 2) := by decide +kernel
theorem dX7_append_32 : decode cX7_append 32 = .ok (.iconst 4, 1) := by decide +kernel
theorem dX7_append_33 : decode cX7_append 33 = .ok (.if_icmp .ge 7, 3) := by decide +kernel
theorem dX7_append_36 : decode cX7_append 36 = .ok (.iload_n 1, 1) := by decide +kernel
theorem dX7_append_37 : decode cX7_append 37 = .ok (.goto 39, 3) := by decide +kernel
theorem dX7_append_40 : decode cX7_append 40 = .ok (.iload 6, 2) := by decide +kernel
theorem dX7_append_42 : decode cX7_append 42 = .ok (.bipush 8, 2) := by decide +kernel
theorem dX7_append_44 : decode cX7_append 44 = .ok (.if_icmp .ge 7, 3) := by decide +kernel
theorem dX7_append_47 : decode cX7_append 47 = .ok (.iload_n 2, 1) := by decide +kernel
theorem dX7_append_48 : decode cX7_append 48 = .ok (.goto 28, 3) := by decide +kernel
theorem dX7_append_51 : decode cX7_append 51 = .ok (.iload 6, 2) := by decide +kernel
theorem dX7_append_53 : decode cX7_append 53 = .ok (.bipush 12, 2) := by decide +kernel
theorem dX7_append_55 : decode cX7_append 55 = .ok (.if_icmp .ge 7, 3) := by decide +kernel
theorem dX7_append_58 : decode cX7_append 58 = .ok (.iload_n 3, 1) := by decide +kernel
theorem dX7_append_59 : decode cX7_append 59 = .ok (.goto 17, 3) := by decide +kernel
theorem dX7_append_62 : decode cX7_append 62 = .ok (.iload 6, 2) := by decide +kernel
theorem dX7_append_64 : decode cX7_append 64 = .ok (.bipush 16, 2) := by decide +kernel
theorem dX7_append_66 : decode cX7_append 66 = .ok (.if_icmp .ge 8, 3) := by decide +kernel
theorem dX7_append_69 : decode cX7_append 69 = .ok (.iload 4, 2) := by decide +kernel
theorem dX7_append_71 : decode cX7_append 71 = .ok (.goto 5, 3) := by decide +kernel
theorem dX7_append_74 : decode cX7_append 74 = .ok (.iload 5, 2) := by decide +kernel
theorem dX7_append_76 : decode cX7_append 76 = .ok (.istore 7, 2) := by decide +kernel
theorem dX7_append_78 : decode cX7_append 78 = .ok (.aload_n 0, 1) := by decide +kernel
theorem dX7_append_79 : decode cX7_append 79 = .ok (.getfield 60, 3) := by decide +kernel
theorem dX7_append_82 : decode cX7_append 82 = .ok (.aload_n 0, 1) := by decide +kernel
theorem dX7_append_83 : decode cX7_append 83 = .ok (.getfield 116, 3) := by decide +kernel
theorem dX7_append_86 : decode cX7_append 86 = .ok (.iload 7, 2) := by decide +kernel
theorem dX7_append_88 : decode cX7_append 88 = .ok (.bipush 24, 2) := by decide +kernel
theorem dX7_append_90 : decode cX7_append 90 = .ok (.bipush 8, 2) := by decide +kernel
theorem dX7_append_92 : decode cX7_append 92 = .ok (.iload 6, 2) := by decide +kernel
theorem dX7_append_94 : decode cX7_append 94 = .ok (.iconst 4, 1) := by decide +kernel
theorem dX7_append_95 : decode cX7_append 95 = .ok (.irem, 1) := by decide +kernel
theorem dX7_append_96 : decode cX7_append 96 = .ok (.imul, 1) := by decide +kernel
theorem dX7_append_97 : decode cX7_append 97 = .ok (.isub, 1) := by decide +kernel
theorem dX7_append_98 : decode cX7_append 98 = .ok (.ishr, 1) := by decide +kernel
theorem dX7_append_99 : decode cX7_append 99 = .ok (.sipush 255, 3) := by decide +kernel
theorem dX7_append_102 : decode cX7_append 102 = .ok (.iand, 1) := by decide +kernel
theorem dX7_append_103 : decode cX7_append 103 = .ok (.iastore, 1) := by decide +kernel
theorem dX7_append_104 : decode cX7_append 104 = .ok (.aload_n 0, 1) := by decide +kernel
theorem dX7_append_105 : decode cX7_append 105 = .ok (.dup, 1) := by decide +kernel
theorem dX7_append_106 : decode cX7_append 106 = .ok (.getfield 116, 3) := by decide +kernel
theorem dX7_append_109 : decode cX7_append 109 = .ok (.iconst 1, 1) := by decide +kernel
theorem dX7_append_110 : decode cX7_append 110 = .ok (.iadd, 1) := by decide +kernel
theorem dX7_append_111 : decode cX7_append 111 = .ok (.putfield 116, 3) := by decide +kernel
theorem dX7_append_114 : decode cX7_append 114 = .ok (.iinc 6 1, 3) := by decide +kernel
theorem dX7_append_117 : decode cX7_append 117 = .ok (.goto (-94), 3) := by decide +kernel
theorem dX7_append_120 : decode cX7_append 120 = .ok (.aload_n 0, 1) := by decide +kernel
theorem dX7_append_121 : decode cX7_append 121 = .ok (.getfield 116, 3) := by decide +kernel
theorem dX7_append_124 : decode cX7_append 124 = .ok (.ireturn, 1) := by decide +kernel
theorem dX7_byteAt_0 : decode cX7_byteAt 0 = .ok (.iload_n 1, 1) := by decide +kernel
theorem dX7_byteAt_1 : decode cX7_byteAt 1 = .ok (.aload_n 0, 1) := by decide +kernel
theorem dX7_byteAt_2 : decode cX7_byteAt 2 = .ok (.getfield 119, 3) := by decide +kernel
theorem dX7_byteAt_5 : decode cX7_byteAt 5 = .ok (.if_icmp .ge 12, 3) := by decide +kernel
theorem dX7_byteAt_8 : decode cX7_byteAt 8 = .ok (.aload_n 0, 1) := by decide +kernel
theorem dX7_byteAt_9 : decode cX7_byteAt 9 = .ok (.getfield 60, 3) := by decide +kernel
theorem dX7_byteAt_12 : decode cX7_byteAt 12 = .ok (.iload_n 1, 1) := by decide +kernel
theorem dX7_byteAt_13 : decode cX7_byteAt 13 = .ok (.iaload, 1) := by decide +kernel
theorem dX7_byteAt_14 : decode cX7_byteAt 14 = .ok (.goto 4, 3) := by decide +kernel
theorem dX7_byteAt_17 : decode cX7_byteAt 17 = .ok (.iconst (-1), 1) := by decide +kernel
theorem dX7_byteAt_18 : decode cX7_byteAt 18 = .ok (.ireturn, 1) := by decide +kernel
theorem dX7_isLetter_0 : decode cX7_isLetter 0 = .ok (.iload_n 0, 1) := by decide +kernel
theorem dX7_isLetter_1 : decode cX7_isLetter 1 = .ok (.bipush 97, 2) := by decide +kernel
theorem dX7_isLetter_3 : decode cX7_isLetter 3 = .ok (.if_icmp .lt 13, 3) := by decide +kernel
theorem dX7_isLetter_6 : decode cX7_isLetter 6 = .ok (.iload_n 0, 1) := by decide +kernel
theorem dX7_isLetter_7 : decode cX7_isLetter 7 = .ok (.bipush 122, 2) := by decide +kernel
theorem dX7_isLetter_9 : decode cX7_isLetter 9 = .ok (.if_icmp .gt 7, 3) := by decide +kernel
theorem dX7_isLetter_12 : decode cX7_isLetter 12 = .ok (.iconst 1, 1) := by decide +kernel
theorem dX7_isLetter_13 : decode cX7_isLetter 13 = .ok (.goto 4, 3) := by decide +kernel
theorem dX7_isLetter_16 : decode cX7_isLetter 16 = .ok (.iconst 0, 1) := by decide +kernel
theorem dX7_isLetter_17 : decode cX7_isLetter 17 = .ok (.ireturn, 1) := by decide +kernel
theorem dX7_isDigit_0 : decode cX7_isDigit 0 = .ok (.iload_n 0, 1) := by decide +kernel
theorem dX7_isDigit_1 : decode cX7_isDigit 1 = .ok (.bipush 48, 2) := by decide +kernel
theorem dX7_isDigit_3 : decode cX7_isDigit 3 = .ok (.if_icmp .lt 13, 3) := by decide +kernel
theorem dX7_isDigit_6 : decode cX7_isDigit 6 = .ok (.iload_n 0, 1) := by decide +kernel
theorem dX7_isDigit_7 : decode cX7_isDigit 7 = .ok (.bipush 57, 2) := by decide +kernel
theorem dX7_isDigit_9 : decode cX7_isDigit 9 = .ok (.if_icmp .gt 7, 3) := by decide +kernel
theorem dX7_isDigit_12 : decode cX7_isDigit 12 = .ok (.iconst 1, 1) := by decide +kernel
theorem dX7_isDigit_13 : decode cX7_isDigit 13 = .ok (.goto 4, 3) := by decide +kernel
theorem dX7_isDigit_16 : decode cX7_isDigit 16 = .ok (.iconst 0, 1) := by decide +kernel
theorem dX7_isDigit_17 : decode cX7_isDigit 17 = .ok (.ireturn, 1) := by decide +kernel
theorem dX7_readsWord_0 : decode cX7_readsWord 0 = .ok (.aload_n 0, 1) := by decide +kernel
theorem dX7_readsWord_1 : decode cX7_readsWord 1 = .ok (.lconst 0, 1) := by decide +kernel
theorem dX7_readsWord_2 : decode cX7_readsWord 2 = .ok (.putfield 122, 3) := by decide +kernel
theorem dX7_readsWord_5 : decode cX7_readsWord 5 = .ok (.aload_n 0, 1) := by decide +kernel
theorem dX7_readsWord_6 : decode cX7_readsWord 6 = .ok (.aload_n 0, 1) := by decide +kernel
theorem dX7_readsWord_7 : decode cX7_readsWord 7 = .ok (.getfield 126, 3) := by decide +kernel
theorem dX7_readsWord_10 : decode cX7_readsWord 10 = .ok (.invokevirtual 129, 3) := by decide +kernel
theorem dX7_readsWord_13 : decode cX7_readsWord 13 = .ok (.invokestatic 133, 3) := by decide +kernel
theorem dX7_readsWord_16 : decode cX7_readsWord 16 = .ok (.ifCond .eq 65, 3) := by decide +kernel
theorem dX7_readsWord_19 : decode cX7_readsWord 19 = .ok (.aload_n 0, 1) := by decide +kernel
theorem dX7_readsWord_20 : decode cX7_readsWord 20 = .ok (.aload_n 0, 1) := by decide +kernel
theorem dX7_readsWord_21 : decode cX7_readsWord 21 = .ok (.getfield 126, 3) := by decide +kernel
theorem dX7_readsWord_24 : decode cX7_readsWord 24 = .ok (.aload_n 0, 1) := by decide +kernel
theorem dX7_readsWord_25 : decode cX7_readsWord 25 = .ok (.getfield 136, 3) := by decide +kernel
theorem dX7_readsWord_28 : decode cX7_readsWord 28 = .ok (.isub, 1) := by decide +kernel
theorem dX7_readsWord_29 : decode cX7_readsWord 29 = .ok (.bipush 8, 2) := by decide +kernel
theorem dX7_readsWord_31 : decode cX7_readsWord 31 = .ok (.if_icmp .ge 30, 3) := by decide +kernel
theorem dX7_readsWord_34 : decode cX7_readsWord 34 = .ok (.ldc2_w 139, 3) := by decide +kernel
theorem dX7_readsWord_37 : decode cX7_readsWord 37 = .ok (.aload_n 0, 1) := by decide +kernel
theorem dX7_readsWord_38 : decode cX7_readsWord 38 = .ok (.getfield 122, 3) := by decide +kernel
theorem dX7_readsWord_41 : decode cX7_readsWord 41 = .ok (.lmul, 1) := by decide +kernel
theorem dX7_readsWord_42 : decode cX7_readsWord 42 = .ok (.aload_n 0, 1) := by decide +kernel
theorem dX7_readsWord_43 : decode cX7_readsWord 43 = .ok (.aload_n 0, 1) := by decide +kernel
theorem dX7_readsWord_44 : decode cX7_readsWord 44 = .ok (.getfield 126, 3) := by decide +kernel
theorem dX7_readsWord_47 : decode cX7_readsWord 47 = .ok (.invokevirtual 129, 3) := by decide +kernel
theorem dX7_readsWord_50 : decode cX7_readsWord 50 = .ok (.i2l, 1) := by decide +kernel
theorem dX7_readsWord_51 : decode cX7_readsWord 51 = .ok (.ladd, 1) := by decide +kernel
theorem dX7_readsWord_52 : decode cX7_readsWord 52 = .ok (.ldc2_w 141, 3) := by decide +kernel
theorem dX7_readsWord_55 : decode cX7_readsWord 55 = .ok (.lsub, 1) := by decide +kernel
theorem dX7_readsWord_56 : decode cX7_readsWord 56 = .ok (.lconst 1, 1) := by decide +kernel
theorem dX7_readsWord_57 : decode cX7_readsWord 57 = .ok (.ladd, 1) := by decide +kernel
theorem dX7_readsWord_58 : decode cX7_readsWord 58 = .ok (.goto 7, 3) := by decide +kernel
theorem dX7_readsWord_61 : decode cX7_readsWord 61 = .ok (.aload_n 0, 1) := by decide +kernel
theorem dX7_readsWord_62 : decode cX7_readsWord 62 = .ok (.getfield 122, 3) := by decide +kernel
theorem dX7_readsWord_65 : decode cX7_readsWord 65 = .ok (.putfield 122, 3) := by decide +kernel
theorem dX7_readsWord_68 : decode cX7_readsWord 68 = .ok (.aload_n 0, 1) := by decide +kernel
theorem dX7_readsWord_69 : decode cX7_readsWord 69 = .ok (.dup, 1) := by decide +kernel
theorem dX7_readsWord_70 : decode cX7_readsWord 70 = .ok (.getfield 126, 3) := by decide +kernel
theorem dX7_readsWord_73 : decode cX7_readsWord 73 = .ok (.iconst 1, 1) := by decide +kernel
theorem dX7_readsWord_74 : decode cX7_readsWord 74 = .ok (.iadd, 1) := by decide +kernel
theorem dX7_readsWord_75 : decode cX7_readsWord 75 = .ok (.putfield 126, 3) := by decide +kernel
theorem dX7_readsWord_78 : decode cX7_readsWord 78 = .ok (.goto (-73), 3) := by decide +kernel
theorem dX7_readsWord_81 : decode cX7_readsWord 81 = .ok (.aload_n 0, 1) := by decide +kernel
theorem dX7_readsWord_82 : decode cX7_readsWord 82 = .ok (.aload_n 0, 1) := by decide +kernel
theorem dX7_readsWord_83 : decode cX7_readsWord 83 = .ok (.getfield 126, 3) := by decide +kernel
theorem dX7_readsWord_86 : decode cX7_readsWord 86 = .ok (.aload_n 0, 1) := by decide +kernel
theorem dX7_readsWord_87 : decode cX7_readsWord 87 = .ok (.getfield 136, 3) := by decide +kernel
theorem dX7_readsWord_90 : decode cX7_readsWord 90 = .ok (.isub, 1) := by decide +kernel
theorem dX7_readsWord_91 : decode cX7_readsWord 91 = .ok (.bipush 8, 2) := by decide +kernel
theorem dX7_readsWord_93 : decode cX7_readsWord 93 = .ok (.if_icmp .le 7, 3) := by decide +kernel
theorem dX7_readsWord_96 : decode cX7_readsWord 96 = .ok (.iconst 4, 1) := by decide +kernel
theorem dX7_readsWord_97 : decode cX7_readsWord 97 = .ok (.goto 4, 3) := by decide +kernel
theorem dX7_readsWord_100 : decode cX7_readsWord 100 = .ok (.iconst 1, 1) := by decide +kernel
theorem dX7_readsWord_101 : decode cX7_readsWord 101 = .ok (.putfield 143, 3) := by decide +kernel
theorem dX7_readsWord_104 : decode cX7_readsWord 104 = .ok (.return_, 1) := by decide +kernel
theorem dX7_readsNumber_0 : decode cX7_readsNumber 0 = .ok (.aload_n 0, 1) := by decide +kernel
theorem dX7_readsNumber_1 : decode cX7_readsNumber 1 = .ok (.iconst 0, 1) := by decide +kernel
theorem dX7_readsNumber_2 : decode cX7_readsNumber 2 = .ok (.putfield 146, 3) := by decide +kernel
theorem dX7_readsNumber_5 : decode cX7_readsNumber 5 = .ok (.aload_n 0, 1) := by decide +kernel
theorem dX7_readsNumber_6 : decode cX7_readsNumber 6 = .ok (.aload_n 0, 1) := by decide +kernel
theorem dX7_readsNumber_7 : decode cX7_readsNumber 7 = .ok (.getfield 126, 3) := by decide +kernel
theorem dX7_readsNumber_10 : decode cX7_readsNumber 10 = .ok (.invokevirtual 129, 3) := by decide +kernel
theorem dX7_readsNumber_13 : decode cX7_readsNumber 13 = .ok (.invokestatic 149, 3) := by decide +kernel
theorem dX7_readsNumber_16 : decode cX7_readsNumber 16 = .ok (.ifCond .eq 59, 3) := by decide +kernel
theorem dX7_readsNumber_19 : decode cX7_readsNumber 19 = .ok (.aload_n 0, 1) := by decide +kernel
theorem dX7_readsNumber_20 : decode cX7_readsNumber 20 = .ok (.aload_n 0, 1) := by decide +kernel
theorem dX7_readsNumber_21 : decode cX7_readsNumber 21 = .ok (.getfield 126, 3) := by decide +kernel
theorem dX7_readsNumber_24 : decode cX7_readsNumber 24 = .ok (.aload_n 0, 1) := by decide +kernel
theorem dX7_readsNumber_25 : decode cX7_readsNumber 25 = .ok (.getfield 136, 3) := by decide +kernel
theorem dX7_readsNumber_28 : decode cX7_readsNumber 28 = .ok (.isub, 1) := by decide +kernel
theorem dX7_readsNumber_29 : decode cX7_readsNumber 29 = .ok (.iconst 2, 1) := by decide +kernel
theorem dX7_readsNumber_30 : decode cX7_readsNumber 30 = .ok (.if_icmp .ge 25, 3) := by decide +kernel
theorem dX7_readsNumber_33 : decode cX7_readsNumber 33 = .ok (.bipush 10, 2) := by decide +kernel
theorem dX7_readsNumber_35 : decode cX7_readsNumber 35 = .ok (.aload_n 0, 1) := by decide +kernel
theorem dX7_readsNumber_36 : decode cX7_readsNumber 36 = .ok (.getfield 146, 3) := by decide +kernel
theorem dX7_readsNumber_39 : decode cX7_readsNumber 39 = .ok (.imul, 1) := by decide +kernel
theorem dX7_readsNumber_40 : decode cX7_readsNumber 40 = .ok (.aload_n 0, 1) := by decide +kernel
theorem dX7_readsNumber_41 : decode cX7_readsNumber 41 = .ok (.aload_n 0, 1) := by decide +kernel
theorem dX7_readsNumber_42 : decode cX7_readsNumber 42 = .ok (.getfield 126, 3) := by decide +kernel
theorem dX7_readsNumber_45 : decode cX7_readsNumber 45 = .ok (.invokevirtual 129, 3) := by decide +kernel
theorem dX7_readsNumber_48 : decode cX7_readsNumber 48 = .ok (.iadd, 1) := by decide +kernel
theorem dX7_readsNumber_49 : decode cX7_readsNumber 49 = .ok (.bipush 48, 2) := by decide +kernel
theorem dX7_readsNumber_51 : decode cX7_readsNumber 51 = .ok (.isub, 1) := by decide +kernel
theorem dX7_readsNumber_52 : decode cX7_readsNumber 52 = .ok (.goto 7, 3) := by decide +kernel
theorem dX7_readsNumber_55 : decode cX7_readsNumber 55 = .ok (.aload_n 0, 1) := by decide +kernel
theorem dX7_readsNumber_56 : decode cX7_readsNumber 56 = .ok (.getfield 146, 3) := by decide +kernel
theorem dX7_readsNumber_59 : decode cX7_readsNumber 59 = .ok (.putfield 146, 3) := by decide +kernel
theorem dX7_readsNumber_62 : decode cX7_readsNumber 62 = .ok (.aload_n 0, 1) := by decide +kernel
theorem dX7_readsNumber_63 : decode cX7_readsNumber 63 = .ok (.dup, 1) := by decide +kernel
theorem dX7_readsNumber_64 : decode cX7_readsNumber 64 = .ok (.getfield 126, 3) := by decide +kernel
theorem dX7_readsNumber_67 : decode cX7_readsNumber 67 = .ok (.iconst 1, 1) := by decide +kernel
theorem dX7_readsNumber_68 : decode cX7_readsNumber 68 = .ok (.iadd, 1) := by decide +kernel
theorem dX7_readsNumber_69 : decode cX7_readsNumber 69 = .ok (.putfield 126, 3) := by decide +kernel
theorem dX7_readsNumber_72 : decode cX7_readsNumber 72 = .ok (.goto (-67), 3) := by decide +kernel
theorem dX7_readsNumber_75 : decode cX7_readsNumber 75 = .ok (.aload_n 0, 1) := by decide +kernel
theorem dX7_readsNumber_76 : decode cX7_readsNumber 76 = .ok (.aload_n 0, 1) := by decide +kernel
theorem dX7_readsNumber_77 : decode cX7_readsNumber 77 = .ok (.getfield 126, 3) := by decide +kernel
theorem dX7_readsNumber_80 : decode cX7_readsNumber 80 = .ok (.aload_n 0, 1) := by decide +kernel
theorem dX7_readsNumber_81 : decode cX7_readsNumber 81 = .ok (.getfield 136, 3) := by decide +kernel
theorem dX7_readsNumber_84 : decode cX7_readsNumber 84 = .ok (.isub, 1) := by decide +kernel
theorem dX7_readsNumber_85 : decode cX7_readsNumber 85 = .ok (.iconst 2, 1) := by decide +kernel
theorem dX7_readsNumber_86 : decode cX7_readsNumber 86 = .ok (.if_icmp .le 7, 3) := by decide +kernel
theorem dX7_readsNumber_89 : decode cX7_readsNumber 89 = .ok (.iconst 4, 1) := by decide +kernel
theorem dX7_readsNumber_90 : decode cX7_readsNumber 90 = .ok (.goto 4, 3) := by decide +kernel
theorem dX7_readsNumber_93 : decode cX7_readsNumber 93 = .ok (.iconst 2, 1) := by decide +kernel
theorem dX7_readsNumber_94 : decode cX7_readsNumber 94 = .ok (.putfield 143, 3) := by decide +kernel
theorem dX7_readsNumber_97 : decode cX7_readsNumber 97 = .ok (.return_, 1) := by decide +kernel
theorem dX7_nextToken_0 : decode cX7_nextToken 0 = .ok (.aload_n 0, 1) := by decide +kernel
theorem dX7_nextToken_1 : decode cX7_nextToken 1 = .ok (.aload_n 0, 1) := by decide +kernel
theorem dX7_nextToken_2 : decode cX7_nextToken 2 = .ok (.getfield 126, 3) := by decide +kernel
theorem dX7_nextToken_5 : decode cX7_nextToken 5 = .ok (.invokevirtual 129, 3) := by decide +kernel
theorem dX7_nextToken_8 : decode cX7_nextToken 8 = .ok (.bipush 32, 2) := by decide +kernel
theorem dX7_nextToken_10 : decode cX7_nextToken 10 = .ok (.if_icmp .ne 16, 3) := by decide +kernel
theorem dX7_nextToken_13 : decode cX7_nextToken 13 = .ok (.aload_n 0, 1) := by decide +kernel
theorem dX7_nextToken_14 : decode cX7_nextToken 14 = .ok (.dup, 1) := by decide +kernel
theorem dX7_nextToken_15 : decode cX7_nextToken 15 = .ok (.getfield 126, 3) := by decide +kernel
theorem dX7_nextToken_18 : decode cX7_nextToken 18 = .ok (.iconst 1, 1) := by decide +kernel
theorem dX7_nextToken_19 : decode cX7_nextToken 19 = .ok (.iadd, 1) := by decide +kernel
theorem dX7_nextToken_20 : decode cX7_nextToken 20 = .ok (.putfield 126, 3) := by decide +kernel
theorem dX7_nextToken_23 : decode cX7_nextToken 23 = .ok (.goto (-23), 3) := by decide +kernel
theorem dX7_nextToken_26 : decode cX7_nextToken 26 = .ok (.aload_n 0, 1) := by decide +kernel
theorem dX7_nextToken_27 : decode cX7_nextToken 27 = .ok (.aload_n 0, 1) := by decide +kernel
theorem dX7_nextToken_28 : decode cX7_nextToken 28 = .ok (.getfield 126, 3) := by decide +kernel
theorem dX7_nextToken_31 : decode cX7_nextToken 31 = .ok (.putfield 136, 3) := by decide +kernel
theorem dX7_nextToken_34 : decode cX7_nextToken 34 = .ok (.aload_n 0, 1) := by decide +kernel
theorem dX7_nextToken_35 : decode cX7_nextToken 35 = .ok (.aload_n 0, 1) := by decide +kernel
theorem dX7_nextToken_36 : decode cX7_nextToken 36 = .ok (.getfield 136, 3) := by decide +kernel
theorem dX7_nextToken_39 : decode cX7_nextToken 39 = .ok (.invokevirtual 129, 3) := by decide +kernel
theorem dX7_nextToken_42 : decode cX7_nextToken 42 = .ok (.istore_n 1, 1) := by decide +kernel
theorem dX7_nextToken_43 : decode cX7_nextToken 43 = .ok (.aload_n 0, 1) := by decide +kernel
theorem dX7_nextToken_44 : decode cX7_nextToken 44 = .ok (.getfield 136, 3) := by decide +kernel
theorem dX7_nextToken_47 : decode cX7_nextToken 47 = .ok (.aload_n 0, 1) := by decide +kernel
theorem dX7_nextToken_48 : decode cX7_nextToken 48 = .ok (.getfield 119, 3) := by decide +kernel
theorem dX7_nextToken_51 : decode cX7_nextToken 51 = .ok (.if_icmp .lt 11, 3) := by decide +kernel
theorem dX7_nextToken_54 : decode cX7_nextToken 54 = .ok (.aload_n 0, 1) := by decide +kernel
theorem dX7_nextToken_55 : decode cX7_nextToken 55 = .ok (.iconst 0, 1) := by decide +kernel
theorem dX7_nextToken_56 : decode cX7_nextToken 56 = .ok (.putfield 143, 3) := by decide +kernel
theorem dX7_nextToken_59 : decode cX7_nextToken 59 = .ok (.goto 56, 3) := by decide +kernel
theorem dX7_nextToken_62 : decode cX7_nextToken 62 = .ok (.iload_n 1, 1) := by decide +kernel
theorem dX7_nextToken_63 : decode cX7_nextToken 63 = .ok (.invokestatic 133, 3) := by decide +kernel
theorem dX7_nextToken_66 : decode cX7_nextToken 66 = .ok (.ifCond .eq 10, 3) := by decide +kernel
theorem dX7_nextToken_69 : decode cX7_nextToken 69 = .ok (.aload_n 0, 1) := by decide +kernel
theorem dX7_nextToken_70 : decode cX7_nextToken 70 = .ok (.invokevirtual 152, 3) := by decide +kernel
theorem dX7_nextToken_73 : decode cX7_nextToken 73 = .ok (.goto 42, 3) := by decide +kernel
theorem dX7_nextToken_76 : decode cX7_nextToken 76 = .ok (.iload_n 1, 1) := by decide +kernel
theorem dX7_nextToken_77 : decode cX7_nextToken 77 = .ok (.invokestatic 149, 3) := by decide +kernel
theorem dX7_nextToken_80 : decode cX7_nextToken 80 = .ok (.ifCond .eq 10, 3) := by decide +kernel
theorem dX7_nextToken_83 : decode cX7_nextToken 83 = .ok (.aload_n 0, 1) := by decide +kernel
theorem dX7_nextToken_84 : decode cX7_nextToken 84 = .ok (.invokevirtual 155, 3) := by decide +kernel
theorem dX7_nextToken_87 : decode cX7_nextToken 87 = .ok (.goto 28, 3) := by decide +kernel
theorem dX7_nextToken_90 : decode cX7_nextToken 90 = .ok (.aload_n 0, 1) := by decide +kernel
theorem dX7_nextToken_91 : decode cX7_nextToken 91 = .ok (.iload_n 1, 1) := by decide +kernel
theorem dX7_nextToken_92 : decode cX7_nextToken 92 = .ok (.bipush 59, 2) := by decide +kernel
theorem dX7_nextToken_94 : decode cX7_nextToken 94 = .ok (.if_icmp .ne 7, 3) := by decide +kernel
theorem dX7_nextToken_97 : decode cX7_nextToken 97 = .ok (.iconst 3, 1) := by decide +kernel
theorem dX7_nextToken_98 : decode cX7_nextToken 98 = .ok (.goto 4, 3) := by decide +kernel
theorem dX7_nextToken_101 : decode cX7_nextToken 101 = .ok (.iconst 4, 1) := by decide +kernel
theorem dX7_nextToken_102 : decode cX7_nextToken 102 = .ok (.putfield 143, 3) := by decide +kernel
theorem dX7_nextToken_105 : decode cX7_nextToken 105 = .ok (.aload_n 0, 1) := by decide +kernel
theorem dX7_nextToken_106 : decode cX7_nextToken 106 = .ok (.dup, 1) := by decide +kernel
theorem dX7_nextToken_107 : decode cX7_nextToken 107 = .ok (.getfield 126, 3) := by decide +kernel
theorem dX7_nextToken_110 : decode cX7_nextToken 110 = .ok (.iconst 1, 1) := by decide +kernel
theorem dX7_nextToken_111 : decode cX7_nextToken 111 = .ok (.iadd, 1) := by decide +kernel
theorem dX7_nextToken_112 : decode cX7_nextToken 112 = .ok (.putfield 126, 3) := by decide +kernel
theorem dX7_nextToken_115 : decode cX7_nextToken 115 = .ok (.return_, 1) := by decide +kernel
theorem dX7_isGood_0 : decode cX7_isGood 0 = .ok (.aload_n 0, 1) := by decide +kernel
theorem dX7_isGood_1 : decode cX7_isGood 1 = .ok (.getfield 158, 3) := by decide +kernel
theorem dX7_isGood_4 : decode cX7_isGood 4 = .ok (.ifCond .ne 7, 3) := by decide +kernel
theorem dX7_isGood_7 : decode cX7_isGood 7 = .ok (.iconst 1, 1) := by decide +kernel
theorem dX7_isGood_8 : decode cX7_isGood 8 = .ok (.goto 4, 3) := by decide +kernel
theorem dX7_isGood_11 : decode cX7_isGood 11 = .ok (.iconst 0, 1) := by decide +kernel
theorem dX7_isGood_12 : decode cX7_isGood 12 = .ok (.ireturn, 1) := by decide +kernel
theorem dX7_must_0 : decode cX7_must 0 = .ok (.aload_n 0, 1) := by decide +kernel
theorem dX7_must_1 : decode cX7_must 1 = .ok (.invokevirtual 161, 3) := by decide +kernel
theorem dX7_must_4 : decode cX7_must 4 = .ok (.ifCond .eq 20, 3) := by decide +kernel
theorem dX7_must_7 : decode cX7_must 7 = .ok (.iload_n 1, 1) := by decide +kernel
theorem dX7_must_8 : decode cX7_must 8 = .ok (.ifCond .ne 16, 3) := by decide +kernel
theorem dX7_must_11 : decode cX7_must 11 = .ok (.aload_n 0, 1) := by decide +kernel
theorem dX7_must_12 : decode cX7_must 12 = .ok (.iload_n 2, 1) := by decide +kernel
theorem dX7_must_13 : decode cX7_must 13 = .ok (.putfield 158, 3) := by decide +kernel
theorem dX7_must_16 : decode cX7_must 16 = .ok (.aload_n 0, 1) := by decide +kernel
theorem dX7_must_17 : decode cX7_must 17 = .ok (.aload_n 0, 1) := by decide +kernel
theorem dX7_must_18 : decode cX7_must 18 = .ok (.getfield 136, 3) := by decide +kernel
theorem dX7_must_21 : decode cX7_must 21 = .ok (.putfield 165, 3) := by decide +kernel
theorem dX7_must_24 : decode cX7_must 24 = .ok (.aload_n 0, 1) := by decide +kernel
theorem dX7_must_25 : decode cX7_must 25 = .ok (.invokevirtual 161, 3) := by decide +kernel
theorem dX7_must_28 : decode cX7_must 28 = .ok (.ireturn, 1) := by decide +kernel
theorem dX7_goOn_0 : decode cX7_goOn 0 = .ok (.aload_n 0, 1) := by decide +kernel
theorem dX7_goOn_1 : decode cX7_goOn 1 = .ok (.invokevirtual 161, 3) := by decide +kernel
theorem dX7_goOn_4 : decode cX7_goOn 4 = .ok (.ifCond .eq 7, 3) := by decide +kernel
theorem dX7_goOn_7 : decode cX7_goOn 7 = .ok (.aload_n 0, 1) := by decide +kernel
theorem dX7_goOn_8 : decode cX7_goOn 8 = .ok (.invokevirtual 168, 3) := by decide +kernel
theorem dX7_goOn_11 : decode cX7_goOn 11 = .ok (.return_, 1) := by decide +kernel
theorem dX7_isWord_0 : decode cX7_isWord 0 = .ok (.aload_n 0, 1) := by decide +kernel
theorem dX7_isWord_1 : decode cX7_isWord 1 = .ok (.invokevirtual 161, 3) := by decide +kernel
theorem dX7_isWord_4 : decode cX7_isWord 4 = .ok (.ifCond .eq 27, 3) := by decide +kernel
theorem dX7_isWord_7 : decode cX7_isWord 7 = .ok (.aload_n 0, 1) := by decide +kernel
theorem dX7_isWord_8 : decode cX7_isWord 8 = .ok (.getfield 143, 3) := by decide +kernel
theorem dX7_isWord_11 : decode cX7_isWord 11 = .ok (.iconst 1, 1) := by decide +kernel
theorem dX7_isWord_12 : decode cX7_isWord 12 = .ok (.if_icmp .ne 19, 3) := by decide +kernel
theorem dX7_isWord_15 : decode cX7_isWord 15 = .ok (.aload_n 0, 1) := by decide +kernel
theorem dX7_isWord_16 : decode cX7_isWord 16 = .ok (.getfield 126, 3) := by decide +kernel
theorem dX7_isWord_19 : decode cX7_isWord 19 = .ok (.aload_n 0, 1) := by decide +kernel
theorem dX7_isWord_20 : decode cX7_isWord 20 = .ok (.getfield 136, 3) := by decide +kernel
theorem dX7_isWord_23 : decode cX7_isWord 23 = .ok (.isub, 1) := by decide +kernel
theorem dX7_isWord_24 : decode cX7_isWord 24 = .ok (.aload_n 1, 1) := by decide +kernel
theorem dX7_isWord_25 : decode cX7_isWord 25 = .ok (.invokevirtual 171, 3) := by decide +kernel
theorem dX7_isWord_28 : decode cX7_isWord 28 = .ok (.if_icmp .eq 5, 3) := by decide +kernel
theorem dX7_isWord_31 : decode cX7_isWord 31 = .ok (.iconst 0, 1) := by decide +kernel
theorem dX7_isWord_32 : decode cX7_isWord 32 = .ok (.ireturn, 1) := by decide +kernel
theorem dX7_isWord_33 : decode cX7_isWord 33 = .ok (.iconst 0, 1) := by decide +kernel
theorem dX7_isWord_34 : decode cX7_isWord 34 = .ok (.istore_n 2, 1) := by decide +kernel
theorem dX7_isWord_35 : decode cX7_isWord 35 = .ok (.iload_n 2, 1) := by decide +kernel
theorem dX7_isWord_36 : decode cX7_isWord 36 = .ok (.aload_n 1, 1) := by decide +kernel
theorem dX7_isWord_37 : decode cX7_isWord 37 = .ok (.invokevirtual 171, 3) := by decide +kernel
theorem dX7_isWord_40 : decode cX7_isWord 40 = .ok (.if_icmp .ge 29, 3) := by decide +kernel
theorem dX7_isWord_43 : decode cX7_isWord 43 = .ok (.aload_n 0, 1) := by decide +kernel
theorem dX7_isWord_44 : decode cX7_isWord 44 = .ok (.aload_n 0, 1) := by decide +kernel
theorem dX7_isWord_45 : decode cX7_isWord 45 = .ok (.getfield 136, 3) := by decide +kernel
theorem dX7_isWord_48 : decode cX7_isWord 48 = .ok (.iload_n 2, 1) := by decide +kernel
theorem dX7_isWord_49 : decode cX7_isWord 49 = .ok (.iadd, 1) := by decide +kernel
theorem dX7_isWord_50 : decode cX7_isWord 50 = .ok (.invokevirtual 129, 3) := by decide +kernel
theorem dX7_isWord_53 : decode cX7_isWord 53 = .ok (.aload_n 1, 1) := by decide +kernel
theorem dX7_isWord_54 : decode cX7_isWord 54 = .ok (.iload_n 2, 1) := by decide +kernel
theorem dX7_isWord_55 : decode cX7_isWord 55 = .ok (.invokevirtual 176, 3) := by decide +kernel
theorem dX7_isWord_58 : decode cX7_isWord 58 = .ok (.if_icmp .eq 5, 3) := by decide +kernel
theorem dX7_isWord_61 : decode cX7_isWord 61 = .ok (.iconst 0, 1) := by decide +kernel
theorem dX7_isWord_62 : decode cX7_isWord 62 = .ok (.ireturn, 1) := by decide +kernel
theorem dX7_isWord_63 : decode cX7_isWord 63 = .ok (.iinc 2 1, 3) := by decide +kernel
theorem dX7_isWord_66 : decode cX7_isWord 66 = .ok (.goto (-31), 3) := by decide +kernel
theorem dX7_isWord_69 : decode cX7_isWord 69 = .ok (.iconst 1, 1) := by decide +kernel
theorem dX7_isWord_70 : decode cX7_isWord 70 = .ok (.ireturn, 1) := by decide +kernel
theorem dX7_find_0 : decode cX7_find 0 = .ok (.iconst 0, 1) := by decide +kernel
theorem dX7_find_1 : decode cX7_find 1 = .ok (.istore_n 3, 1) := by decide +kernel
theorem dX7_find_2 : decode cX7_find 2 = .ok (.iload_n 3, 1) := by decide +kernel
theorem dX7_find_3 : decode cX7_find 3 = .ok (.aload_n 0, 1) := by decide +kernel
theorem dX7_find_4 : decode cX7_find 4 = .ok (.getfield 98, 3) := by decide +kernel
theorem dX7_find_7 : decode cX7_find 7 = .ok (.if_icmp .ge 22, 3) := by decide +kernel
theorem dX7_find_10 : decode cX7_find 10 = .ok (.aload_n 0, 1) := by decide +kernel
theorem dX7_find_11 : decode cX7_find 11 = .ok (.getfield 47, 3) := by decide +kernel
theorem dX7_find_14 : decode cX7_find 14 = .ok (.iload_n 3, 1) := by decide +kernel
theorem dX7_find_15 : decode cX7_find 15 = .ok (.laload, 1) := by decide +kernel
theorem dX7_find_16 : decode cX7_find 16 = .ok (.lload_n 1, 1) := by decide +kernel
theorem dX7_find_17 : decode cX7_find 17 = .ok (.lcmp, 1) := by decide +kernel
theorem dX7_find_18 : decode cX7_find 18 = .ok (.ifCond .ne 5, 3) := by decide +kernel
theorem dX7_find_21 : decode cX7_find 21 = .ok (.iload_n 3, 1) := by decide +kernel
theorem dX7_find_22 : decode cX7_find 22 = .ok (.ireturn, 1) := by decide +kernel
theorem dX7_find_23 : decode cX7_find 23 = .ok (.iinc 3 1, 3) := by decide +kernel
theorem dX7_find_26 : decode cX7_find 26 = .ok (.goto (-24), 3) := by decide +kernel
theorem dX7_find_29 : decode cX7_find 29 = .ok (.iconst (-1), 1) := by decide +kernel
theorem dX7_find_30 : decode cX7_find 30 = .ok (.ireturn, 1) := by decide +kernel
theorem dX7_isTold_0 : decode cX7_isTold 0 = .ok (.iconst 0, 1) := by decide +kernel
theorem dX7_isTold_1 : decode cX7_isTold 1 = .ok (.istore_n 2, 1) := by decide +kernel
theorem dX7_isTold_2 : decode cX7_isTold 2 = .ok (.iload_n 2, 1) := by decide +kernel
theorem dX7_isTold_3 : decode cX7_isTold 3 = .ok (.aload_n 0, 1) := by decide +kernel
theorem dX7_isTold_4 : decode cX7_isTold 4 = .ok (.getfield 180, 3) := by decide +kernel
theorem dX7_isTold_7 : decode cX7_isTold 7 = .ok (.if_icmp .ge 21, 3) := by decide +kernel
theorem dX7_isTold_10 : decode cX7_isTold 10 = .ok (.aload_n 0, 1) := by decide +kernel
theorem dX7_isTold_11 : decode cX7_isTold 11 = .ok (.getfield 63, 3) := by decide +kernel
theorem dX7_isTold_14 : decode cX7_isTold 14 = .ok (.iload_n 2, 1) := by decide +kernel
theorem dX7_isTold_15 : decode cX7_isTold 15 = .ok (.iaload, 1) := by decide +kernel
theorem dX7_isTold_16 : decode cX7_isTold 16 = .ok (.iload_n 1, 1) := by decide +kernel
theorem dX7_isTold_17 : decode cX7_isTold 17 = .ok (.if_icmp .ne 5, 3) := by decide +kernel
theorem dX7_isTold_20 : decode cX7_isTold 20 = .ok (.iconst 1, 1) := by decide +kernel
theorem dX7_isTold_21 : decode cX7_isTold 21 = .ok (.ireturn, 1) := by decide +kernel
theorem dX7_isTold_22 : decode cX7_isTold 22 = .ok (.iinc 2 1, 3) := by decide +kernel
theorem dX7_isTold_25 : decode cX7_isTold 25 = .ok (.goto (-23), 3) := by decide +kernel
theorem dX7_isTold_28 : decode cX7_isTold 28 = .ok (.iconst 0, 1) := by decide +kernel
theorem dX7_isTold_29 : decode cX7_isTold 29 = .ok (.ireturn, 1) := by decide +kernel
theorem dX7_readsAmounts_0 : decode cX7_readsAmounts 0 = .ok (.aload_n 0, 1) := by decide +kernel
theorem dX7_readsAmounts_1 : decode cX7_readsAmounts 1 = .ok (.iconst 0, 1) := by decide +kernel
theorem dX7_readsAmounts_2 : decode cX7_readsAmounts 2 = .ok (.putfield 180, 3) := by decide +kernel
theorem dX7_readsAmounts_5 : decode cX7_readsAmounts 5 = .ok (.iconst 1, 1) := by decide +kernel
theorem dX7_readsAmounts_6 : decode cX7_readsAmounts 6 = .ok (.istore_n 2, 1) := by decide +kernel
theorem dX7_readsAmounts_7 : decode cX7_readsAmounts 7 = .ok (.iload_n 2, 1) := by decide +kernel
theorem dX7_readsAmounts_8 : decode cX7_readsAmounts 8 = .ok (.ifCond .eq 131, 3) := by decide +kernel
theorem dX7_readsAmounts_11 : decode cX7_readsAmounts 11 = .ok (.aload_n 0, 1) := by decide +kernel
theorem dX7_readsAmounts_12 : decode cX7_readsAmounts 12 = .ok (.aload_n 0, 1) := by decide +kernel
theorem dX7_readsAmounts_13 : decode cX7_readsAmounts 13 = .ok (.getfield 143, 3) := by decide +kernel
theorem dX7_readsAmounts_16 : decode cX7_readsAmounts 16 = .ok (.iconst 2, 1) := by decide +kernel
theorem dX7_readsAmounts_17 : decode cX7_readsAmounts 17 = .ok (.if_icmp .ne 7, 3) := by decide +kernel
theorem dX7_readsAmounts_20 : decode cX7_readsAmounts 20 = .ok (.iconst 1, 1) := by decide +kernel
theorem dX7_readsAmounts_21 : decode cX7_readsAmounts 21 = .ok (.goto 4, 3) := by decide +kernel
theorem dX7_readsAmounts_24 : decode cX7_readsAmounts 24 = .ok (.iconst 0, 1) := by decide +kernel
theorem dX7_readsAmounts_25 : decode cX7_readsAmounts 25 = .ok (.iconst 1, 1) := by decide +kernel
theorem dX7_readsAmounts_26 : decode cX7_readsAmounts 26 = .ok (.invokevirtual 183, 3) := by decide +kernel
theorem dX7_readsAmounts_29 : decode cX7_readsAmounts 29 = .ok (.pop, 1) := by decide +kernel
theorem dX7_readsAmounts_30 : decode cX7_readsAmounts 30 = .ok (.aload_n 0, 1) := by decide +kernel
theorem dX7_readsAmounts_31 : decode cX7_readsAmounts 31 = .ok (.aload_n 0, 1) := by decide +kernel
theorem dX7_readsAmounts_32 : decode cX7_readsAmounts 32 = .ok (.aload_n 0, 1) := by decide +kernel
theorem dX7_readsAmounts_33 : decode cX7_readsAmounts 33 = .ok (.getfield 146, 3) := by decide +kernel
theorem dX7_readsAmounts_36 : decode cX7_readsAmounts 36 = .ok (.invokevirtual 187, 3) := by decide +kernel
theorem dX7_readsAmounts_39 : decode cX7_readsAmounts 39 = .ok (.ifCond .ne 7, 3) := by decide +kernel
theorem dX7_readsAmounts_42 : decode cX7_readsAmounts 42 = .ok (.iconst 1, 1) := by decide +kernel
theorem dX7_readsAmounts_43 : decode cX7_readsAmounts 43 = .ok (.goto 4, 3) := by decide +kernel
theorem dX7_readsAmounts_46 : decode cX7_readsAmounts 46 = .ok (.iconst 0, 1) := by decide +kernel
theorem dX7_readsAmounts_47 : decode cX7_readsAmounts 47 = .ok (.iconst 2, 1) := by decide +kernel
theorem dX7_readsAmounts_48 : decode cX7_readsAmounts 48 = .ok (.invokevirtual 183, 3) := by decide +kernel
theorem dX7_readsAmounts_51 : decode cX7_readsAmounts 51 = .ok (.pop, 1) := by decide +kernel
theorem dX7_readsAmounts_52 : decode cX7_readsAmounts 52 = .ok (.aload_n 0, 1) := by decide +kernel
theorem dX7_readsAmounts_53 : decode cX7_readsAmounts 53 = .ok (.aload_n 0, 1) := by decide +kernel
theorem dX7_readsAmounts_54 : decode cX7_readsAmounts 54 = .ok (.getfield 146, 3) := by decide +kernel
theorem dX7_readsAmounts_57 : decode cX7_readsAmounts 57 = .ok (.iconst 1, 1) := by decide +kernel
theorem dX7_readsAmounts_58 : decode cX7_readsAmounts 58 = .ok (.iload_n 1, 1) := by decide +kernel
theorem dX7_readsAmounts_59 : decode cX7_readsAmounts 59 = .ok (.invokestatic 77, 3) := by decide +kernel
theorem dX7_readsAmounts_62 : decode cX7_readsAmounts 62 = .ok (.iconst 3, 1) := by decide +kernel
theorem dX7_readsAmounts_63 : decode cX7_readsAmounts 63 = .ok (.invokevirtual 183, 3) := by decide +kernel
theorem dX7_readsAmounts_66 : decode cX7_readsAmounts 66 = .ok (.pop, 1) := by decide +kernel
theorem dX7_readsAmounts_67 : decode cX7_readsAmounts 67 = .ok (.aload_n 0, 1) := by decide +kernel
theorem dX7_readsAmounts_68 : decode cX7_readsAmounts 68 = .ok (.aload_n 0, 1) := by decide +kernel
theorem dX7_readsAmounts_69 : decode cX7_readsAmounts 69 = .ok (.getfield 180, 3) := by decide +kernel
theorem dX7_readsAmounts_72 : decode cX7_readsAmounts 72 = .ok (.bipush 8, 2) := by decide +kernel
theorem dX7_readsAmounts_74 : decode cX7_readsAmounts 74 = .ok (.if_icmp .ge 7, 3) := by decide +kernel
theorem dX7_readsAmounts_77 : decode cX7_readsAmounts 77 = .ok (.iconst 1, 1) := by decide +kernel
theorem dX7_readsAmounts_78 : decode cX7_readsAmounts 78 = .ok (.goto 4, 3) := by decide +kernel
theorem dX7_readsAmounts_81 : decode cX7_readsAmounts 81 = .ok (.iconst 0, 1) := by decide +kernel
theorem dX7_readsAmounts_82 : decode cX7_readsAmounts 82 = .ok (.iconst 5, 1) := by decide +kernel
theorem dX7_readsAmounts_83 : decode cX7_readsAmounts 83 = .ok (.invokevirtual 183, 3) := by decide +kernel
theorem dX7_readsAmounts_86 : decode cX7_readsAmounts 86 = .ok (.pop, 1) := by decide +kernel
theorem dX7_readsAmounts_87 : decode cX7_readsAmounts 87 = .ok (.aload_n 0, 1) := by decide +kernel
theorem dX7_readsAmounts_88 : decode cX7_readsAmounts 88 = .ok (.invokevirtual 161, 3) := by decide +kernel
theorem dX7_readsAmounts_91 : decode cX7_readsAmounts 91 = .ok (.ifCond .ne 4, 3) := by decide +kernel
theorem dX7_readsAmounts_94 : decode cX7_readsAmounts 94 = .ok (.return_, 1) := by decide +kernel
theorem dX7_readsAmounts_95 : decode cX7_readsAmounts 95 = .ok (.aload_n 0, 1) := by decide +kernel
theorem dX7_readsAmounts_96 : decode cX7_readsAmounts 96 = .ok (.getfield 63, 3) := by decide +kernel
theorem dX7_readsAmounts_99 : decode cX7_readsAmounts 99 = .ok (.aload_n 0, 1) := by decide +kernel
theorem dX7_readsAmounts_100 : decode cX7_readsAmounts 100 = .ok (.getfield 180, 3) := by decide +kernel
theorem dX7_readsAmounts_103 : decode cX7_readsAmounts 103 = .ok (.aload_n 0, 1) := by decide +kernel
theorem dX7_readsAmounts_104 : decode cX7_readsAmounts 104 = .ok (.getfield 146, 3) := by decide +kernel
theorem dX7_readsAmounts_107 : decode cX7_readsAmounts 107 = .ok (.iastore, 1) := by decide +kernel
theorem dX7_readsAmounts_108 : decode cX7_readsAmounts 108 = .ok (.aload_n 0, 1) := by decide +kernel
theorem dX7_readsAmounts_109 : decode cX7_readsAmounts 109 = .ok (.dup, 1) := by decide +kernel
theorem dX7_readsAmounts_110 : decode cX7_readsAmounts 110 = .ok (.getfield 180, 3) := by decide +kernel
theorem dX7_readsAmounts_113 : decode cX7_readsAmounts 113 = .ok (.iconst 1, 1) := by decide +kernel
theorem dX7_readsAmounts_114 : decode cX7_readsAmounts 114 = .ok (.iadd, 1) := by decide +kernel
theorem dX7_readsAmounts_115 : decode cX7_readsAmounts 115 = .ok (.putfield 180, 3) := by decide +kernel
theorem dX7_readsAmounts_118 : decode cX7_readsAmounts 118 = .ok (.aload_n 0, 1) := by decide +kernel
theorem dX7_readsAmounts_119 : decode cX7_readsAmounts 119 = .ok (.invokevirtual 168, 3) := by decide +kernel
theorem dX7_readsAmounts_122 : decode cX7_readsAmounts 122 = .ok (.aload_n 0, 1) := by decide +kernel
theorem dX7_readsAmounts_123 : decode cX7_readsAmounts 123 = .ok (.getfield 143, 3) := by decide +kernel
theorem dX7_readsAmounts_126 : decode cX7_readsAmounts 126 = .ok (.iconst 2, 1) := by decide +kernel
theorem dX7_readsAmounts_127 : decode cX7_readsAmounts 127 = .ok (.if_icmp .ne 7, 3) := by decide +kernel
theorem dX7_readsAmounts_130 : decode cX7_readsAmounts 130 = .ok (.iconst 1, 1) := by decide +kernel
theorem dX7_readsAmounts_131 : decode cX7_readsAmounts 131 = .ok (.goto 4, 3) := by decide +kernel
theorem dX7_readsAmounts_134 : decode cX7_readsAmounts 134 = .ok (.iconst 0, 1) := by decide +kernel
theorem dX7_readsAmounts_135 : decode cX7_readsAmounts 135 = .ok (.istore_n 2, 1) := by decide +kernel
theorem dX7_readsAmounts_136 : decode cX7_readsAmounts 136 = .ok (.goto (-129), 3) := by decide +kernel
theorem dX7_readsAmounts_139 : decode cX7_readsAmounts 139 = .ok (.return_, 1) := by decide +kernel
theorem dX7_kindHere_0 : decode cX7_kindHere 0 = .ok (.aload_n 0, 1) := by decide +kernel
theorem dX7_kindHere_1 : decode cX7_kindHere 1 = .ok (.ldc 190, 2) := by decide +kernel
theorem dX7_kindHere_3 : decode cX7_kindHere 3 = .ok (.invokevirtual 192, 3) := by decide +kernel
theorem dX7_kindHere_6 : decode cX7_kindHere 6 = .ok (.ifCond .eq 7, 3) := by decide +kernel
theorem dX7_kindHere_9 : decode cX7_kindHere 9 = .ok (.iconst 0, 1) := by decide +kernel
theorem dX7_kindHere_10 : decode cX7_kindHere 10 = .ok (.goto 56, 3) := by decide +kernel
theorem dX7_kindHere_13 : decode cX7_kindHere 13 = .ok (.aload_n 0, 1) := by decide +kernel
theorem dX7_kindHere_14 : decode cX7_kindHere 14 = .ok (.ldc 196, 2) := by decide +kernel
theorem dX7_kindHere_16 : decode cX7_kindHere 16 = .ok (.invokevirtual 192, 3) := by decide +kernel
theorem dX7_kindHere_19 : decode cX7_kindHere 19 = .ok (.ifCond .eq 7, 3) := by decide +kernel
theorem dX7_kindHere_22 : decode cX7_kindHere 22 = .ok (.iconst 1, 1) := by decide +kernel
theorem dX7_kindHere_23 : decode cX7_kindHere 23 = .ok (.goto 43, 3) := by decide +kernel
theorem dX7_kindHere_26 : decode cX7_kindHere 26 = .ok (.aload_n 0, 1) := by decide +kernel
theorem dX7_kindHere_27 : decode cX7_kindHere 27 = .ok (.ldc 198, 2) := by decide +kernel
theorem dX7_kindHere_29 : decode cX7_kindHere 29 = .ok (.invokevirtual 192, 3) := by decide +kernel
theorem dX7_kindHere_32 : decode cX7_kindHere 32 = .ok (.ifCond .eq 7, 3) := by decide +kernel
theorem dX7_kindHere_35 : decode cX7_kindHere 35 = .ok (.iconst 2, 1) := by decide +kernel
theorem dX7_kindHere_36 : decode cX7_kindHere 36 = .ok (.goto 30, 3) := by decide +kernel
theorem dX7_kindHere_39 : decode cX7_kindHere 39 = .ok (.aload_n 0, 1) := by decide +kernel
theorem dX7_kindHere_40 : decode cX7_kindHere 40 = .ok (.ldc 200, 2) := by decide +kernel
theorem dX7_kindHere_42 : decode cX7_kindHere 42 = .ok (.invokevirtual 192, 3) := by decide +kernel
theorem dX7_kindHere_45 : decode cX7_kindHere 45 = .ok (.ifCond .eq 7, 3) := by decide +kernel
theorem dX7_kindHere_48 : decode cX7_kindHere 48 = .ok (.iconst 3, 1) := by decide +kernel
theorem dX7_kindHere_49 : decode cX7_kindHere 49 = .ok (.goto 17, 3) := by decide +kernel
theorem dX7_kindHere_52 : decode cX7_kindHere 52 = .ok (.aload_n 0, 1) := by decide +kernel
theorem dX7_kindHere_53 : decode cX7_kindHere 53 = .ok (.ldc 202, 2) := by decide +kernel
theorem dX7_kindHere_55 : decode cX7_kindHere 55 = .ok (.invokevirtual 192, 3) := by decide +kernel
theorem dX7_kindHere_58 : decode cX7_kindHere 58 = .ok (.ifCond .eq 7, 3) := by decide +kernel
theorem dX7_kindHere_61 : decode cX7_kindHere 61 = .ok (.iconst 4, 1) := by decide +kernel
theorem dX7_kindHere_62 : decode cX7_kindHere 62 = .ok (.goto 4, 3) := by decide +kernel
theorem dX7_kindHere_65 : decode cX7_kindHere 65 = .ok (.iconst (-1), 1) := by decide +kernel
theorem dX7_kindHere_66 : decode cX7_kindHere 66 = .ok (.ireturn, 1) := by decide +kernel
theorem dX7_readsRule_0 : decode cX7_readsRule 0 = .ok (.aload_n 0, 1) := by decide +kernel
theorem dX7_readsRule_1 : decode cX7_readsRule 1 = .ok (.aload_n 0, 1) := by decide +kernel
theorem dX7_readsRule_2 : decode cX7_readsRule 2 = .ok (.getfield 98, 3) := by decide +kernel
theorem dX7_readsRule_5 : decode cX7_readsRule 5 = .ok (.bipush 6, 2) := by decide +kernel
theorem dX7_readsRule_7 : decode cX7_readsRule 7 = .ok (.if_icmp .ge 7, 3) := by decide +kernel
theorem dX7_readsRule_10 : decode cX7_readsRule 10 = .ok (.iconst 1, 1) := by decide +kernel
theorem dX7_readsRule_11 : decode cX7_readsRule 11 = .ok (.goto 4, 3) := by decide +kernel
theorem dX7_readsRule_14 : decode cX7_readsRule 14 = .ok (.iconst 0, 1) := by decide +kernel
theorem dX7_readsRule_15 : decode cX7_readsRule 15 = .ok (.iconst 5, 1) := by decide +kernel
theorem dX7_readsRule_16 : decode cX7_readsRule 16 = .ok (.invokevirtual 183, 3) := by decide +kernel
theorem dX7_readsRule_19 : decode cX7_readsRule 19 = .ok (.pop, 1) := by decide +kernel
theorem dX7_readsRule_20 : decode cX7_readsRule 20 = .ok (.aload_n 0, 1) := by decide +kernel
theorem dX7_readsRule_21 : decode cX7_readsRule 21 = .ok (.invokevirtual 204, 3) := by decide +kernel
theorem dX7_readsRule_24 : decode cX7_readsRule 24 = .ok (.aload_n 0, 1) := by decide +kernel
theorem dX7_readsRule_25 : decode cX7_readsRule 25 = .ok (.aload_n 0, 1) := by decide +kernel
theorem dX7_readsRule_26 : decode cX7_readsRule 26 = .ok (.getfield 143, 3) := by decide +kernel
theorem dX7_readsRule_29 : decode cX7_readsRule 29 = .ok (.iconst 1, 1) := by decide +kernel
theorem dX7_readsRule_30 : decode cX7_readsRule 30 = .ok (.if_icmp .ne 7, 3) := by decide +kernel
theorem dX7_readsRule_33 : decode cX7_readsRule 33 = .ok (.iconst 1, 1) := by decide +kernel
theorem dX7_readsRule_34 : decode cX7_readsRule 34 = .ok (.goto 4, 3) := by decide +kernel
theorem dX7_readsRule_37 : decode cX7_readsRule 37 = .ok (.iconst 0, 1) := by decide +kernel
theorem dX7_readsRule_38 : decode cX7_readsRule 38 = .ok (.iconst 1, 1) := by decide +kernel
theorem dX7_readsRule_39 : decode cX7_readsRule 39 = .ok (.invokevirtual 183, 3) := by decide +kernel
theorem dX7_readsRule_42 : decode cX7_readsRule 42 = .ok (.pop, 1) := by decide +kernel
theorem dX7_readsRule_43 : decode cX7_readsRule 43 = .ok (.aload_n 0, 1) := by decide +kernel
theorem dX7_readsRule_44 : decode cX7_readsRule 44 = .ok (.aload_n 0, 1) := by decide +kernel
theorem dX7_readsRule_45 : decode cX7_readsRule 45 = .ok (.aload_n 0, 1) := by decide +kernel
theorem dX7_readsRule_46 : decode cX7_readsRule 46 = .ok (.getfield 122, 3) := by decide +kernel
theorem dX7_readsRule_49 : decode cX7_readsRule 49 = .ok (.invokevirtual 207, 3) := by decide +kernel
theorem dX7_readsRule_52 : decode cX7_readsRule 52 = .ok (.iconst (-1), 1) := by decide +kernel
theorem dX7_readsRule_53 : decode cX7_readsRule 53 = .ok (.if_icmp .ne 7, 3) := by decide +kernel
theorem dX7_readsRule_56 : decode cX7_readsRule 56 = .ok (.iconst 1, 1) := by decide +kernel
theorem dX7_readsRule_57 : decode cX7_readsRule 57 = .ok (.goto 4, 3) := by decide +kernel
theorem dX7_readsRule_60 : decode cX7_readsRule 60 = .ok (.iconst 0, 1) := by decide +kernel
theorem dX7_readsRule_61 : decode cX7_readsRule 61 = .ok (.iconst 2, 1) := by decide +kernel
theorem dX7_readsRule_62 : decode cX7_readsRule 62 = .ok (.invokevirtual 183, 3) := by decide +kernel
theorem dX7_readsRule_65 : decode cX7_readsRule 65 = .ok (.pop, 1) := by decide +kernel
theorem dX7_readsRule_66 : decode cX7_readsRule 66 = .ok (.aload_n 0, 1) := by decide +kernel
theorem dX7_readsRule_67 : decode cX7_readsRule 67 = .ok (.invokevirtual 161, 3) := by decide +kernel
theorem dX7_readsRule_70 : decode cX7_readsRule 70 = .ok (.ifCond .ne 4, 3) := by decide +kernel
theorem dX7_readsRule_73 : decode cX7_readsRule 73 = .ok (.return_, 1) := by decide +kernel
theorem dX7_readsRule_74 : decode cX7_readsRule 74 = .ok (.aload_n 0, 1) := by decide +kernel
theorem dX7_readsRule_75 : decode cX7_readsRule 75 = .ok (.getfield 47, 3) := by decide +kernel
theorem dX7_readsRule_78 : decode cX7_readsRule 78 = .ok (.aload_n 0, 1) := by decide +kernel
theorem dX7_readsRule_79 : decode cX7_readsRule 79 = .ok (.getfield 98, 3) := by decide +kernel
theorem dX7_readsRule_82 : decode cX7_readsRule 82 = .ok (.aload_n 0, 1) := by decide +kernel
theorem dX7_readsRule_83 : decode cX7_readsRule 83 = .ok (.getfield 122, 3) := by decide +kernel
theorem dX7_readsRule_86 : decode cX7_readsRule 86 = .ok (.lastore, 1) := by decide +kernel
theorem dX7_readsRule_87 : decode cX7_readsRule 87 = .ok (.aload_n 0, 1) := by decide +kernel
theorem dX7_readsRule_88 : decode cX7_readsRule 88 = .ok (.invokevirtual 168, 3) := by decide +kernel
theorem dX7_readsRule_91 : decode cX7_readsRule 91 = .ok (.aload_n 0, 1) := by decide +kernel
theorem dX7_readsRule_92 : decode cX7_readsRule 92 = .ok (.invokevirtual 211, 3) := by decide +kernel
theorem dX7_readsRule_95 : decode cX7_readsRule 95 = .ok (.istore_n 1, 1) := by decide +kernel
theorem dX7_readsRule_96 : decode cX7_readsRule 96 = .ok (.aload_n 0, 1) := by decide +kernel
theorem dX7_readsRule_97 : decode cX7_readsRule 97 = .ok (.iload_n 1, 1) := by decide +kernel
theorem dX7_readsRule_98 : decode cX7_readsRule 98 = .ok (.iconst (-1), 1) := by decide +kernel
theorem dX7_readsRule_99 : decode cX7_readsRule 99 = .ok (.if_icmp .eq 7, 3) := by decide +kernel
theorem dX7_readsRule_102 : decode cX7_readsRule 102 = .ok (.iconst 1, 1) := by decide +kernel
theorem dX7_readsRule_103 : decode cX7_readsRule 103 = .ok (.goto 4, 3) := by decide +kernel
theorem dX7_readsRule_106 : decode cX7_readsRule 106 = .ok (.iconst 0, 1) := by decide +kernel
theorem dX7_readsRule_107 : decode cX7_readsRule 107 = .ok (.iconst 1, 1) := by decide +kernel
theorem dX7_readsRule_108 : decode cX7_readsRule 108 = .ok (.invokevirtual 183, 3) := by decide +kernel
theorem dX7_readsRule_111 : decode cX7_readsRule 111 = .ok (.pop, 1) := by decide +kernel
theorem dX7_readsRule_112 : decode cX7_readsRule 112 = .ok (.aload_n 0, 1) := by decide +kernel
theorem dX7_readsRule_113 : decode cX7_readsRule 113 = .ok (.invokevirtual 204, 3) := by decide +kernel
theorem dX7_readsRule_116 : decode cX7_readsRule 116 = .ok (.aload_n 0, 1) := by decide +kernel
theorem dX7_readsRule_117 : decode cX7_readsRule 117 = .ok (.iconst 0, 1) := by decide +kernel
theorem dX7_readsRule_118 : decode cX7_readsRule 118 = .ok (.putfield 180, 3) := by decide +kernel
theorem dX7_readsRule_121 : decode cX7_readsRule 121 = .ok (.aload_n 0, 1) := by decide +kernel
theorem dX7_readsRule_122 : decode cX7_readsRule 122 = .ok (.invokevirtual 161, 3) := by decide +kernel
theorem dX7_readsRule_125 : decode cX7_readsRule 125 = .ok (.ifCond .eq 13, 3) := by decide +kernel
theorem dX7_readsRule_128 : decode cX7_readsRule 128 = .ok (.iload_n 1, 1) := by decide +kernel
theorem dX7_readsRule_129 : decode cX7_readsRule 129 = .ok (.ifCond .ne 9, 3) := by decide +kernel
theorem dX7_readsRule_132 : decode cX7_readsRule 132 = .ok (.aload_n 0, 1) := by decide +kernel
theorem dX7_readsRule_133 : decode cX7_readsRule 133 = .ok (.bipush 60, 2) := by decide +kernel
theorem dX7_readsRule_135 : decode cX7_readsRule 135 = .ok (.invokevirtual 214, 3) := by decide +kernel
theorem dX7_readsRule_138 : decode cX7_readsRule 138 = .ok (.aload_n 0, 1) := by decide +kernel
theorem dX7_readsRule_139 : decode cX7_readsRule 139 = .ok (.invokevirtual 161, 3) := by decide +kernel
theorem dX7_readsRule_142 : decode cX7_readsRule 142 = .ok (.ifCond .ne 4, 3) := by decide +kernel
theorem dX7_readsRule_145 : decode cX7_readsRule 145 = .ok (.return_, 1) := by decide +kernel
theorem dX7_readsRule_146 : decode cX7_readsRule 146 = .ok (.aload_n 0, 1) := by decide +kernel
theorem dX7_readsRule_147 : decode cX7_readsRule 147 = .ok (.getfield 26, 3) := by decide +kernel
theorem dX7_readsRule_150 : decode cX7_readsRule 150 = .ok (.aload_n 0, 1) := by decide +kernel
theorem dX7_readsRule_151 : decode cX7_readsRule 151 = .ok (.getfield 98, 3) := by decide +kernel
theorem dX7_readsRule_154 : decode cX7_readsRule 154 = .ok (.iload_n 1, 1) := by decide +kernel
theorem dX7_readsRule_155 : decode cX7_readsRule 155 = .ok (.iastore, 1) := by decide +kernel
theorem dX7_readsRule_156 : decode cX7_readsRule 156 = .ok (.aload_n 0, 1) := by decide +kernel
theorem dX7_readsRule_157 : decode cX7_readsRule 157 = .ok (.getfield 29, 3) := by decide +kernel
theorem dX7_readsRule_160 : decode cX7_readsRule 160 = .ok (.aload_n 0, 1) := by decide +kernel
theorem dX7_readsRule_161 : decode cX7_readsRule 161 = .ok (.getfield 98, 3) := by decide +kernel
theorem dX7_readsRule_164 : decode cX7_readsRule 164 = .ok (.aload_n 0, 1) := by decide +kernel
theorem dX7_readsRule_165 : decode cX7_readsRule 165 = .ok (.getfield 180, 3) := by decide +kernel
theorem dX7_readsRule_168 : decode cX7_readsRule 168 = .ok (.iastore, 1) := by decide +kernel
theorem dX7_readsRule_169 : decode cX7_readsRule 169 = .ok (.iconst 0, 1) := by decide +kernel
theorem dX7_readsRule_170 : decode cX7_readsRule 170 = .ok (.istore_n 2, 1) := by decide +kernel
theorem dX7_readsRule_171 : decode cX7_readsRule 171 = .ok (.iload_n 2, 1) := by decide +kernel
theorem dX7_readsRule_172 : decode cX7_readsRule 172 = .ok (.aload_n 0, 1) := by decide +kernel
theorem dX7_readsRule_173 : decode cX7_readsRule 173 = .ok (.getfield 180, 3) := by decide +kernel
theorem dX7_readsRule_176 : decode cX7_readsRule 176 = .ok (.if_icmp .ge 29, 3) := by decide +kernel
theorem dX7_readsRule_179 : decode cX7_readsRule 179 = .ok (.aload_n 0, 1) := by decide +kernel
theorem dX7_readsRule_180 : decode cX7_readsRule 180 = .ok (.getfield 32, 3) := by decide +kernel
theorem dX7_readsRule_183 : decode cX7_readsRule 183 = .ok (.bipush 8, 2) := by decide +kernel
theorem dX7_readsRule_185 : decode cX7_readsRule 185 = .ok (.aload_n 0, 1) := by decide +kernel
theorem dX7_readsRule_186 : decode cX7_readsRule 186 = .ok (.getfield 98, 3) := by decide +kernel
theorem dX7_readsRule_189 : decode cX7_readsRule 189 = .ok (.imul, 1) := by decide +kernel
theorem dX7_readsRule_190 : decode cX7_readsRule 190 = .ok (.iload_n 2, 1) := by decide +kernel
theorem dX7_readsRule_191 : decode cX7_readsRule 191 = .ok (.iadd, 1) := by decide +kernel
theorem dX7_readsRule_192 : decode cX7_readsRule 192 = .ok (.aload_n 0, 1) := by decide +kernel
theorem dX7_readsRule_193 : decode cX7_readsRule 193 = .ok (.getfield 63, 3) := by decide +kernel
theorem dX7_readsRule_196 : decode cX7_readsRule 196 = .ok (.iload_n 2, 1) := by decide +kernel
theorem dX7_readsRule_197 : decode cX7_readsRule 197 = .ok (.iaload, 1) := by decide +kernel
theorem dX7_readsRule_198 : decode cX7_readsRule 198 = .ok (.iastore, 1) := by decide +kernel
theorem dX7_readsRule_199 : decode cX7_readsRule 199 = .ok (.iinc 2 1, 3) := by decide +kernel
theorem dX7_readsRule_202 : decode cX7_readsRule 202 = .ok (.goto (-31), 3) := by decide +kernel
theorem dX7_readsRule_205 : decode cX7_readsRule 205 = .ok (.aload_n 0, 1) := by decide +kernel
theorem dX7_readsRule_206 : decode cX7_readsRule 206 = .ok (.dup, 1) := by decide +kernel
theorem dX7_readsRule_207 : decode cX7_readsRule 207 = .ok (.getfield 98, 3) := by decide +kernel
theorem dX7_readsRule_210 : decode cX7_readsRule 210 = .ok (.iconst 1, 1) := by decide +kernel
theorem dX7_readsRule_211 : decode cX7_readsRule 211 = .ok (.iadd, 1) := by decide +kernel
theorem dX7_readsRule_212 : decode cX7_readsRule 212 = .ok (.putfield 98, 3) := by decide +kernel
theorem dX7_readsRule_215 : decode cX7_readsRule 215 = .ok (.return_, 1) := by decide +kernel
theorem dX7_read_0 : decode cX7_read 0 = .ok (.aload_n 0, 1) := by decide +kernel
theorem dX7_read_1 : decode cX7_read 1 = .ok (.aload_n 0, 1) := by decide +kernel
theorem dX7_read_2 : decode cX7_read 2 = .ok (.getfield 143, 3) := by decide +kernel
theorem dX7_read_5 : decode cX7_read 5 = .ok (.iconst 2, 1) := by decide +kernel
theorem dX7_read_6 : decode cX7_read 6 = .ok (.if_icmp .ne 7, 3) := by decide +kernel
theorem dX7_read_9 : decode cX7_read 9 = .ok (.iconst 1, 1) := by decide +kernel
theorem dX7_read_10 : decode cX7_read 10 = .ok (.goto 4, 3) := by decide +kernel
theorem dX7_read_13 : decode cX7_read 13 = .ok (.iconst 0, 1) := by decide +kernel
theorem dX7_read_14 : decode cX7_read 14 = .ok (.iconst 1, 1) := by decide +kernel
theorem dX7_read_15 : decode cX7_read 15 = .ok (.invokevirtual 183, 3) := by decide +kernel
theorem dX7_read_18 : decode cX7_read 18 = .ok (.pop, 1) := by decide +kernel
theorem dX7_read_19 : decode cX7_read 19 = .ok (.aload_n 0, 1) := by decide +kernel
theorem dX7_read_20 : decode cX7_read 20 = .ok (.aload_n 0, 1) := by decide +kernel
theorem dX7_read_21 : decode cX7_read 21 = .ok (.getfield 146, 3) := by decide +kernel
theorem dX7_read_24 : decode cX7_read 24 = .ok (.iload_n 1, 1) := by decide +kernel
theorem dX7_read_25 : decode cX7_read 25 = .ok (.iload_n 2, 1) := by decide +kernel
theorem dX7_read_26 : decode cX7_read 26 = .ok (.invokestatic 77, 3) := by decide +kernel
theorem dX7_read_29 : decode cX7_read 29 = .ok (.iconst 3, 1) := by decide +kernel
theorem dX7_read_30 : decode cX7_read 30 = .ok (.invokevirtual 183, 3) := by decide +kernel
theorem dX7_read_33 : decode cX7_read 33 = .ok (.pop, 1) := by decide +kernel
theorem dX7_read_34 : decode cX7_read 34 = .ok (.aload_n 0, 1) := by decide +kernel
theorem dX7_read_35 : decode cX7_read 35 = .ok (.invokevirtual 161, 3) := by decide +kernel
theorem dX7_read_38 : decode cX7_read 38 = .ok (.ifCond .eq 10, 3) := by decide +kernel
theorem dX7_read_41 : decode cX7_read 41 = .ok (.aload_n 0, 1) := by decide +kernel
theorem dX7_read_42 : decode cX7_read 42 = .ok (.getfield 146, 3) := by decide +kernel
theorem dX7_read_45 : decode cX7_read 45 = .ok (.goto 4, 3) := by decide +kernel
theorem dX7_read_48 : decode cX7_read 48 = .ok (.iload_n 1, 1) := by decide +kernel
theorem dX7_read_49 : decode cX7_read 49 = .ok (.istore_n 3, 1) := by decide +kernel
theorem dX7_read_50 : decode cX7_read 50 = .ok (.aload_n 0, 1) := by decide +kernel
theorem dX7_read_51 : decode cX7_read 51 = .ok (.invokevirtual 204, 3) := by decide +kernel
theorem dX7_read_54 : decode cX7_read 54 = .ok (.iload_n 3, 1) := by decide +kernel
theorem dX7_read_55 : decode cX7_read 55 = .ok (.ireturn, 1) := by decide +kernel
theorem dX7_readsHeap_0 : decode cX7_readsHeap 0 = .ok (.aload_n 0, 1) := by decide +kernel
theorem dX7_readsHeap_1 : decode cX7_readsHeap 1 = .ok (.aload_n 0, 1) := by decide +kernel
theorem dX7_readsHeap_2 : decode cX7_readsHeap 2 = .ok (.getfield 7, 3) := by decide +kernel
theorem dX7_readsHeap_5 : decode cX7_readsHeap 5 = .ok (.iconst 0, 1) := by decide +kernel
theorem dX7_readsHeap_6 : decode cX7_readsHeap 6 = .ok (.iaload, 1) := by decide +kernel
theorem dX7_readsHeap_7 : decode cX7_readsHeap 7 = .ok (.iconst 4, 1) := by decide +kernel
theorem dX7_readsHeap_8 : decode cX7_readsHeap 8 = .ok (.if_icmp .ge 7, 3) := by decide +kernel
theorem dX7_readsHeap_11 : decode cX7_readsHeap 11 = .ok (.iconst 1, 1) := by decide +kernel
theorem dX7_readsHeap_12 : decode cX7_readsHeap 12 = .ok (.goto 4, 3) := by decide +kernel
theorem dX7_readsHeap_15 : decode cX7_readsHeap 15 = .ok (.iconst 0, 1) := by decide +kernel
theorem dX7_readsHeap_16 : decode cX7_readsHeap 16 = .ok (.iconst 5, 1) := by decide +kernel
theorem dX7_readsHeap_17 : decode cX7_readsHeap 17 = .ok (.invokevirtual 183, 3) := by decide +kernel
theorem dX7_readsHeap_20 : decode cX7_readsHeap 20 = .ok (.pop, 1) := by decide +kernel
theorem dX7_readsHeap_21 : decode cX7_readsHeap 21 = .ok (.aload_n 0, 1) := by decide +kernel
theorem dX7_readsHeap_22 : decode cX7_readsHeap 22 = .ok (.invokevirtual 204, 3) := by decide +kernel
theorem dX7_readsHeap_25 : decode cX7_readsHeap 25 = .ok (.aload_n 0, 1) := by decide +kernel
theorem dX7_readsHeap_26 : decode cX7_readsHeap 26 = .ok (.aload_n 0, 1) := by decide +kernel
theorem dX7_readsHeap_27 : decode cX7_readsHeap 27 = .ok (.getfield 143, 3) := by decide +kernel
theorem dX7_readsHeap_30 : decode cX7_readsHeap 30 = .ok (.iconst 1, 1) := by decide +kernel
theorem dX7_readsHeap_31 : decode cX7_readsHeap 31 = .ok (.if_icmp .ne 7, 3) := by decide +kernel
theorem dX7_readsHeap_34 : decode cX7_readsHeap 34 = .ok (.iconst 1, 1) := by decide +kernel
theorem dX7_readsHeap_35 : decode cX7_readsHeap 35 = .ok (.goto 4, 3) := by decide +kernel
theorem dX7_readsHeap_38 : decode cX7_readsHeap 38 = .ok (.iconst 0, 1) := by decide +kernel
theorem dX7_readsHeap_39 : decode cX7_readsHeap 39 = .ok (.iconst 1, 1) := by decide +kernel
theorem dX7_readsHeap_40 : decode cX7_readsHeap 40 = .ok (.invokevirtual 183, 3) := by decide +kernel
theorem dX7_readsHeap_43 : decode cX7_readsHeap 43 = .ok (.pop, 1) := by decide +kernel
theorem dX7_readsHeap_44 : decode cX7_readsHeap 44 = .ok (.aload_n 0, 1) := by decide +kernel
theorem dX7_readsHeap_45 : decode cX7_readsHeap 45 = .ok (.invokevirtual 161, 3) := by decide +kernel
theorem dX7_readsHeap_48 : decode cX7_readsHeap 48 = .ok (.ifCond .eq 14, 3) := by decide +kernel
theorem dX7_readsHeap_51 : decode cX7_readsHeap 51 = .ok (.aload_n 0, 1) := by decide +kernel
theorem dX7_readsHeap_52 : decode cX7_readsHeap 52 = .ok (.aload_n 0, 1) := by decide +kernel
theorem dX7_readsHeap_53 : decode cX7_readsHeap 53 = .ok (.getfield 122, 3) := by decide +kernel
theorem dX7_readsHeap_56 : decode cX7_readsHeap 56 = .ok (.invokevirtual 207, 3) := by decide +kernel
theorem dX7_readsHeap_59 : decode cX7_readsHeap 59 = .ok (.goto 4, 3) := by decide +kernel
theorem dX7_readsHeap_62 : decode cX7_readsHeap 62 = .ok (.iconst (-1), 1) := by decide +kernel
theorem dX7_readsHeap_63 : decode cX7_readsHeap 63 = .ok (.istore_n 1, 1) := by decide +kernel
theorem dX7_readsHeap_64 : decode cX7_readsHeap 64 = .ok (.aload_n 0, 1) := by decide +kernel
theorem dX7_readsHeap_65 : decode cX7_readsHeap 65 = .ok (.iload_n 1, 1) := by decide +kernel
theorem dX7_readsHeap_66 : decode cX7_readsHeap 66 = .ok (.iconst (-1), 1) := by decide +kernel
theorem dX7_readsHeap_67 : decode cX7_readsHeap 67 = .ok (.if_icmp .eq 7, 3) := by decide +kernel
theorem dX7_readsHeap_70 : decode cX7_readsHeap 70 = .ok (.iconst 1, 1) := by decide +kernel
theorem dX7_readsHeap_71 : decode cX7_readsHeap 71 = .ok (.goto 4, 3) := by decide +kernel
theorem dX7_readsHeap_74 : decode cX7_readsHeap 74 = .ok (.iconst 0, 1) := by decide +kernel
theorem dX7_readsHeap_75 : decode cX7_readsHeap 75 = .ok (.iconst 4, 1) := by decide +kernel
theorem dX7_readsHeap_76 : decode cX7_readsHeap 76 = .ok (.invokevirtual 183, 3) := by decide +kernel
theorem dX7_readsHeap_79 : decode cX7_readsHeap 79 = .ok (.pop, 1) := by decide +kernel
theorem dX7_readsHeap_80 : decode cX7_readsHeap 80 = .ok (.aload_n 0, 1) := by decide +kernel
theorem dX7_readsHeap_81 : decode cX7_readsHeap 81 = .ok (.invokevirtual 204, 3) := by decide +kernel
theorem dX7_readsHeap_84 : decode cX7_readsHeap 84 = .ok (.aload_n 0, 1) := by decide +kernel
theorem dX7_readsHeap_85 : decode cX7_readsHeap 85 = .ok (.iconst 0, 1) := by decide +kernel
theorem dX7_readsHeap_86 : decode cX7_readsHeap 86 = .ok (.bipush 15, 2) := by decide +kernel
theorem dX7_readsHeap_88 : decode cX7_readsHeap 88 = .ok (.invokevirtual 218, 3) := by decide +kernel
theorem dX7_readsHeap_91 : decode cX7_readsHeap 91 = .ok (.istore_n 2, 1) := by decide +kernel
theorem dX7_readsHeap_92 : decode cX7_readsHeap 92 = .ok (.aload_n 0, 1) := by decide +kernel
theorem dX7_readsHeap_93 : decode cX7_readsHeap 93 = .ok (.invokevirtual 161, 3) := by decide +kernel
theorem dX7_readsHeap_96 : decode cX7_readsHeap 96 = .ok (.ifCond .ne 4, 3) := by decide +kernel
theorem dX7_readsHeap_99 : decode cX7_readsHeap 99 = .ok (.return_, 1) := by decide +kernel
theorem dX7_readsHeap_100 : decode cX7_readsHeap 100 = .ok (.aload_n 0, 1) := by decide +kernel
theorem dX7_readsHeap_101 : decode cX7_readsHeap 101 = .ok (.getfield 7, 3) := by decide +kernel
theorem dX7_readsHeap_104 : decode cX7_readsHeap 104 = .ok (.iconst 1, 1) := by decide +kernel
theorem dX7_readsHeap_105 : decode cX7_readsHeap 105 = .ok (.aload_n 0, 1) := by decide +kernel
theorem dX7_readsHeap_106 : decode cX7_readsHeap 106 = .ok (.getfield 7, 3) := by decide +kernel
theorem dX7_readsHeap_109 : decode cX7_readsHeap 109 = .ok (.iconst 0, 1) := by decide +kernel
theorem dX7_readsHeap_110 : decode cX7_readsHeap 110 = .ok (.iaload, 1) := by decide +kernel
theorem dX7_readsHeap_111 : decode cX7_readsHeap 111 = .ok (.iadd, 1) := by decide +kernel
theorem dX7_readsHeap_112 : decode cX7_readsHeap 112 = .ok (.iload_n 1, 1) := by decide +kernel
theorem dX7_readsHeap_113 : decode cX7_readsHeap 113 = .ok (.iastore, 1) := by decide +kernel
theorem dX7_readsHeap_114 : decode cX7_readsHeap 114 = .ok (.aload_n 0, 1) := by decide +kernel
theorem dX7_readsHeap_115 : decode cX7_readsHeap 115 = .ok (.getfield 7, 3) := by decide +kernel
theorem dX7_readsHeap_118 : decode cX7_readsHeap 118 = .ok (.iconst 5, 1) := by decide +kernel
theorem dX7_readsHeap_119 : decode cX7_readsHeap 119 = .ok (.aload_n 0, 1) := by decide +kernel
theorem dX7_readsHeap_120 : decode cX7_readsHeap 120 = .ok (.getfield 7, 3) := by decide +kernel
theorem dX7_readsHeap_123 : decode cX7_readsHeap 123 = .ok (.iconst 0, 1) := by decide +kernel
theorem dX7_readsHeap_124 : decode cX7_readsHeap 124 = .ok (.iaload, 1) := by decide +kernel
theorem dX7_readsHeap_125 : decode cX7_readsHeap 125 = .ok (.iadd, 1) := by decide +kernel
theorem dX7_readsHeap_126 : decode cX7_readsHeap 126 = .ok (.iload_n 2, 1) := by decide +kernel
theorem dX7_readsHeap_127 : decode cX7_readsHeap 127 = .ok (.iastore, 1) := by decide +kernel
theorem dX7_readsHeap_128 : decode cX7_readsHeap 128 = .ok (.aload_n 0, 1) := by decide +kernel
theorem dX7_readsHeap_129 : decode cX7_readsHeap 129 = .ok (.getfield 7, 3) := by decide +kernel
theorem dX7_readsHeap_132 : decode cX7_readsHeap 132 = .ok (.iconst 0, 1) := by decide +kernel
theorem dX7_readsHeap_133 : decode cX7_readsHeap 133 = .ok (.dup2, 1) := by decide +kernel
theorem dX7_readsHeap_134 : decode cX7_readsHeap 134 = .ok (.iaload, 1) := by decide +kernel
theorem dX7_readsHeap_135 : decode cX7_readsHeap 135 = .ok (.iconst 1, 1) := by decide +kernel
theorem dX7_readsHeap_136 : decode cX7_readsHeap 136 = .ok (.iadd, 1) := by decide +kernel
theorem dX7_readsHeap_137 : decode cX7_readsHeap 137 = .ok (.iastore, 1) := by decide +kernel
theorem dX7_readsHeap_138 : decode cX7_readsHeap 138 = .ok (.return_, 1) := by decide +kernel
theorem dX7_readsShared_0 : decode cX7_readsShared 0 = .ok (.aload_n 0, 1) := by decide +kernel
theorem dX7_readsShared_1 : decode cX7_readsShared 1 = .ok (.aload_n 0, 1) := by decide +kernel
theorem dX7_readsShared_2 : decode cX7_readsShared 2 = .ok (.getfield 221, 3) := by decide +kernel
theorem dX7_readsShared_5 : decode cX7_readsShared 5 = .ok (.ifCond .ne 7, 3) := by decide +kernel
theorem dX7_readsShared_8 : decode cX7_readsShared 8 = .ok (.iconst 1, 1) := by decide +kernel
theorem dX7_readsShared_9 : decode cX7_readsShared 9 = .ok (.goto 4, 3) := by decide +kernel
theorem dX7_readsShared_12 : decode cX7_readsShared 12 = .ok (.iconst 0, 1) := by decide +kernel
theorem dX7_readsShared_13 : decode cX7_readsShared 13 = .ok (.iconst 2, 1) := by decide +kernel
theorem dX7_readsShared_14 : decode cX7_readsShared 14 = .ok (.invokevirtual 183, 3) := by decide +kernel
theorem dX7_readsShared_17 : decode cX7_readsShared 17 = .ok (.pop, 1) := by decide +kernel
theorem dX7_readsShared_18 : decode cX7_readsShared 18 = .ok (.aload_n 0, 1) := by decide +kernel
theorem dX7_readsShared_19 : decode cX7_readsShared 19 = .ok (.iconst 1, 1) := by decide +kernel
theorem dX7_readsShared_20 : decode cX7_readsShared 20 = .ok (.putfield 221, 3) := by decide +kernel
theorem dX7_readsShared_23 : decode cX7_readsShared 23 = .ok (.aload_n 0, 1) := by decide +kernel
theorem dX7_readsShared_24 : decode cX7_readsShared 24 = .ok (.invokevirtual 204, 3) := by decide +kernel
theorem dX7_readsShared_27 : decode cX7_readsShared 27 = .ok (.aload_n 0, 1) := by decide +kernel
theorem dX7_readsShared_28 : decode cX7_readsShared 28 = .ok (.invokevirtual 161, 3) := by decide +kernel
theorem dX7_readsShared_31 : decode cX7_readsShared 31 = .ok (.ifCond .eq 9, 3) := by decide +kernel
theorem dX7_readsShared_34 : decode cX7_readsShared 34 = .ok (.aload_n 0, 1) := by decide +kernel
theorem dX7_readsShared_35 : decode cX7_readsShared 35 = .ok (.bipush 15, 2) := by decide +kernel
theorem dX7_readsShared_37 : decode cX7_readsShared 37 = .ok (.invokevirtual 214, 3) := by decide +kernel
theorem dX7_readsShared_40 : decode cX7_readsShared 40 = .ok (.aload_n 0, 1) := by decide +kernel
theorem dX7_readsShared_41 : decode cX7_readsShared 41 = .ok (.invokevirtual 161, 3) := by decide +kernel
theorem dX7_readsShared_44 : decode cX7_readsShared 44 = .ok (.ifCond .ne 4, 3) := by decide +kernel
theorem dX7_readsShared_47 : decode cX7_readsShared 47 = .ok (.return_, 1) := by decide +kernel
theorem dX7_readsShared_48 : decode cX7_readsShared 48 = .ok (.iconst 0, 1) := by decide +kernel
theorem dX7_readsShared_49 : decode cX7_readsShared 49 = .ok (.istore_n 1, 1) := by decide +kernel
theorem dX7_readsShared_50 : decode cX7_readsShared 50 = .ok (.iload_n 1, 1) := by decide +kernel
theorem dX7_readsShared_51 : decode cX7_readsShared 51 = .ok (.aload_n 0, 1) := by decide +kernel
theorem dX7_readsShared_52 : decode cX7_readsShared 52 = .ok (.getfield 180, 3) := by decide +kernel
theorem dX7_readsShared_55 : decode cX7_readsShared 55 = .ok (.if_icmp .ge 26, 3) := by decide +kernel
theorem dX7_readsShared_58 : decode cX7_readsShared 58 = .ok (.aload_n 0, 1) := by decide +kernel
theorem dX7_readsShared_59 : decode cX7_readsShared 59 = .ok (.dup, 1) := by decide +kernel
theorem dX7_readsShared_60 : decode cX7_readsShared 60 = .ok (.getfield 225, 3) := by decide +kernel
theorem dX7_readsShared_63 : decode cX7_readsShared 63 = .ok (.iconst 1, 1) := by decide +kernel
theorem dX7_readsShared_64 : decode cX7_readsShared 64 = .ok (.aload_n 0, 1) := by decide +kernel
theorem dX7_readsShared_65 : decode cX7_readsShared 65 = .ok (.getfield 63, 3) := by decide +kernel
theorem dX7_readsShared_68 : decode cX7_readsShared 68 = .ok (.iload_n 1, 1) := by decide +kernel
theorem dX7_readsShared_69 : decode cX7_readsShared 69 = .ok (.iaload, 1) := by decide +kernel
theorem dX7_readsShared_70 : decode cX7_readsShared 70 = .ok (.ishl, 1) := by decide +kernel
theorem dX7_readsShared_71 : decode cX7_readsShared 71 = .ok (.ior, 1) := by decide +kernel
theorem dX7_readsShared_72 : decode cX7_readsShared 72 = .ok (.putfield 225, 3) := by decide +kernel
theorem dX7_readsShared_75 : decode cX7_readsShared 75 = .ok (.iinc 1 1, 3) := by decide +kernel
theorem dX7_readsShared_78 : decode cX7_readsShared 78 = .ok (.goto (-28), 3) := by decide +kernel
theorem dX7_readsShared_81 : decode cX7_readsShared 81 = .ok (.return_, 1) := by decide +kernel
theorem dX7_readsStatement_0 : decode cX7_readsStatement 0 = .ok (.aload_n 0, 1) := by decide +kernel
theorem dX7_readsStatement_1 : decode cX7_readsStatement 1 = .ok (.ldc 228, 2) := by decide +kernel
theorem dX7_readsStatement_3 : decode cX7_readsStatement 3 = .ok (.invokevirtual 192, 3) := by decide +kernel
theorem dX7_readsStatement_6 : decode cX7_readsStatement 6 = .ok (.ifCond .eq 10, 3) := by decide +kernel
theorem dX7_readsStatement_9 : decode cX7_readsStatement 9 = .ok (.aload_n 0, 1) := by decide +kernel
theorem dX7_readsStatement_10 : decode cX7_readsStatement 10 = .ok (.invokevirtual 230, 3) := by decide +kernel
theorem dX7_readsStatement_13 : decode cX7_readsStatement 13 = .ok (.goto 134, 3) := by decide +kernel
theorem dX7_readsStatement_16 : decode cX7_readsStatement 16 = .ok (.aload_n 0, 1) := by decide +kernel
theorem dX7_readsStatement_17 : decode cX7_readsStatement 17 = .ok (.ldc 233, 2) := by decide +kernel
theorem dX7_readsStatement_19 : decode cX7_readsStatement 19 = .ok (.invokevirtual 192, 3) := by decide +kernel
theorem dX7_readsStatement_22 : decode cX7_readsStatement 22 = .ok (.ifCond .eq 10, 3) := by decide +kernel
theorem dX7_readsStatement_25 : decode cX7_readsStatement 25 = .ok (.aload_n 0, 1) := by decide +kernel
theorem dX7_readsStatement_26 : decode cX7_readsStatement 26 = .ok (.invokevirtual 235, 3) := by decide +kernel
theorem dX7_readsStatement_29 : decode cX7_readsStatement 29 = .ok (.goto 118, 3) := by decide +kernel
theorem dX7_readsStatement_32 : decode cX7_readsStatement 32 = .ok (.aload_n 0, 1) := by decide +kernel
theorem dX7_readsStatement_33 : decode cX7_readsStatement 33 = .ok (.ldc 238, 2) := by decide +kernel
theorem dX7_readsStatement_35 : decode cX7_readsStatement 35 = .ok (.invokevirtual 192, 3) := by decide +kernel
theorem dX7_readsStatement_38 : decode cX7_readsStatement 38 = .ok (.ifCond .eq 10, 3) := by decide +kernel
theorem dX7_readsStatement_41 : decode cX7_readsStatement 41 = .ok (.aload_n 0, 1) := by decide +kernel
theorem dX7_readsStatement_42 : decode cX7_readsStatement 42 = .ok (.invokevirtual 239, 3) := by decide +kernel
theorem dX7_readsStatement_45 : decode cX7_readsStatement 45 = .ok (.goto 102, 3) := by decide +kernel
theorem dX7_readsStatement_48 : decode cX7_readsStatement 48 = .ok (.aload_n 0, 1) := by decide +kernel
theorem dX7_readsStatement_49 : decode cX7_readsStatement 49 = .ok (.ldc 242, 2) := by decide +kernel
theorem dX7_readsStatement_51 : decode cX7_readsStatement 51 = .ok (.invokevirtual 192, 3) := by decide +kernel
theorem dX7_readsStatement_54 : decode cX7_readsStatement 54 = .ok (.ifCond .eq 46, 3) := by decide +kernel
theorem dX7_readsStatement_57 : decode cX7_readsStatement 57 = .ok (.aload_n 0, 1) := by decide +kernel
theorem dX7_readsStatement_58 : decode cX7_readsStatement 58 = .ok (.aload_n 0, 1) := by decide +kernel
theorem dX7_readsStatement_59 : decode cX7_readsStatement 59 = .ok (.getfield 244, 3) := by decide +kernel
theorem dX7_readsStatement_62 : decode cX7_readsStatement 62 = .ok (.ifCond .ne 7, 3) := by decide +kernel
theorem dX7_readsStatement_65 : decode cX7_readsStatement 65 = .ok (.iconst 1, 1) := by decide +kernel
theorem dX7_readsStatement_66 : decode cX7_readsStatement 66 = .ok (.goto 4, 3) := by decide +kernel
theorem dX7_readsStatement_69 : decode cX7_readsStatement 69 = .ok (.iconst 0, 1) := by decide +kernel
theorem dX7_readsStatement_70 : decode cX7_readsStatement 70 = .ok (.iconst 2, 1) := by decide +kernel
theorem dX7_readsStatement_71 : decode cX7_readsStatement 71 = .ok (.invokevirtual 183, 3) := by decide +kernel
theorem dX7_readsStatement_74 : decode cX7_readsStatement 74 = .ok (.pop, 1) := by decide +kernel
theorem dX7_readsStatement_75 : decode cX7_readsStatement 75 = .ok (.aload_n 0, 1) := by decide +kernel
theorem dX7_readsStatement_76 : decode cX7_readsStatement 76 = .ok (.iconst 1, 1) := by decide +kernel
theorem dX7_readsStatement_77 : decode cX7_readsStatement 77 = .ok (.putfield 244, 3) := by decide +kernel
theorem dX7_readsStatement_80 : decode cX7_readsStatement 80 = .ok (.aload_n 0, 1) := by decide +kernel
theorem dX7_readsStatement_81 : decode cX7_readsStatement 81 = .ok (.invokevirtual 204, 3) := by decide +kernel
theorem dX7_readsStatement_84 : decode cX7_readsStatement 84 = .ok (.aload_n 0, 1) := by decide +kernel
theorem dX7_readsStatement_85 : decode cX7_readsStatement 85 = .ok (.getfield 7, 3) := by decide +kernel
theorem dX7_readsStatement_88 : decode cX7_readsStatement 88 = .ok (.bipush 9, 2) := by decide +kernel
theorem dX7_readsStatement_90 : decode cX7_readsStatement 90 = .ok (.aload_n 0, 1) := by decide +kernel
theorem dX7_readsStatement_91 : decode cX7_readsStatement 91 = .ok (.iconst 0, 1) := by decide +kernel
theorem dX7_readsStatement_92 : decode cX7_readsStatement 92 = .ok (.iconst 3, 1) := by decide +kernel
theorem dX7_readsStatement_93 : decode cX7_readsStatement 93 = .ok (.invokevirtual 218, 3) := by decide +kernel
theorem dX7_readsStatement_96 : decode cX7_readsStatement 96 = .ok (.iastore, 1) := by decide +kernel
theorem dX7_readsStatement_97 : decode cX7_readsStatement 97 = .ok (.goto 50, 3) := by decide +kernel
theorem dX7_readsStatement_100 : decode cX7_readsStatement 100 = .ok (.aload_n 0, 1) := by decide +kernel
theorem dX7_readsStatement_101 : decode cX7_readsStatement 101 = .ok (.aload_n 0, 1) := by decide +kernel
theorem dX7_readsStatement_102 : decode cX7_readsStatement 102 = .ok (.ldc 247, 2) := by decide +kernel
theorem dX7_readsStatement_104 : decode cX7_readsStatement 104 = .ok (.invokevirtual 192, 3) := by decide +kernel
theorem dX7_readsStatement_107 : decode cX7_readsStatement 107 = .ok (.iconst 1, 1) := by decide +kernel
theorem dX7_readsStatement_108 : decode cX7_readsStatement 108 = .ok (.invokevirtual 183, 3) := by decide +kernel
theorem dX7_readsStatement_111 : decode cX7_readsStatement 111 = .ok (.pop, 1) := by decide +kernel
theorem dX7_readsStatement_112 : decode cX7_readsStatement 112 = .ok (.aload_n 0, 1) := by decide +kernel
theorem dX7_readsStatement_113 : decode cX7_readsStatement 113 = .ok (.aload_n 0, 1) := by decide +kernel
theorem dX7_readsStatement_114 : decode cX7_readsStatement 114 = .ok (.getfield 249, 3) := by decide +kernel
theorem dX7_readsStatement_117 : decode cX7_readsStatement 117 = .ok (.ifCond .ne 7, 3) := by decide +kernel
theorem dX7_readsStatement_120 : decode cX7_readsStatement 120 = .ok (.iconst 1, 1) := by decide +kernel
theorem dX7_readsStatement_121 : decode cX7_readsStatement 121 = .ok (.goto 4, 3) := by decide +kernel
theorem dX7_readsStatement_124 : decode cX7_readsStatement 124 = .ok (.iconst 0, 1) := by decide +kernel
theorem dX7_readsStatement_125 : decode cX7_readsStatement 125 = .ok (.iconst 2, 1) := by decide +kernel
theorem dX7_readsStatement_126 : decode cX7_readsStatement 126 = .ok (.invokevirtual 183, 3) := by decide +kernel
theorem dX7_readsStatement_129 : decode cX7_readsStatement 129 = .ok (.pop, 1) := by decide +kernel
theorem dX7_readsStatement_130 : decode cX7_readsStatement 130 = .ok (.aload_n 0, 1) := by decide +kernel
theorem dX7_readsStatement_131 : decode cX7_readsStatement 131 = .ok (.iconst 1, 1) := by decide +kernel
theorem dX7_readsStatement_132 : decode cX7_readsStatement 132 = .ok (.putfield 249, 3) := by decide +kernel
theorem dX7_readsStatement_135 : decode cX7_readsStatement 135 = .ok (.aload_n 0, 1) := by decide +kernel
theorem dX7_readsStatement_136 : decode cX7_readsStatement 136 = .ok (.getfield 7, 3) := by decide +kernel
theorem dX7_readsStatement_139 : decode cX7_readsStatement 139 = .ok (.bipush 10, 2) := by decide +kernel
theorem dX7_readsStatement_141 : decode cX7_readsStatement 141 = .ok (.iconst 1, 1) := by decide +kernel
theorem dX7_readsStatement_142 : decode cX7_readsStatement 142 = .ok (.iastore, 1) := by decide +kernel
theorem dX7_readsStatement_143 : decode cX7_readsStatement 143 = .ok (.aload_n 0, 1) := by decide +kernel
theorem dX7_readsStatement_144 : decode cX7_readsStatement 144 = .ok (.invokevirtual 204, 3) := by decide +kernel
theorem dX7_readsStatement_147 : decode cX7_readsStatement 147 = .ok (.aload_n 0, 1) := by decide +kernel
theorem dX7_readsStatement_148 : decode cX7_readsStatement 148 = .ok (.aload_n 0, 1) := by decide +kernel
theorem dX7_readsStatement_149 : decode cX7_readsStatement 149 = .ok (.getfield 143, 3) := by decide +kernel
theorem dX7_readsStatement_152 : decode cX7_readsStatement 152 = .ok (.iconst 3, 1) := by decide +kernel
theorem dX7_readsStatement_153 : decode cX7_readsStatement 153 = .ok (.if_icmp .ne 7, 3) := by decide +kernel
theorem dX7_readsStatement_156 : decode cX7_readsStatement 156 = .ok (.iconst 1, 1) := by decide +kernel
theorem dX7_readsStatement_157 : decode cX7_readsStatement 157 = .ok (.goto 4, 3) := by decide +kernel
theorem dX7_readsStatement_160 : decode cX7_readsStatement 160 = .ok (.iconst 0, 1) := by decide +kernel
theorem dX7_readsStatement_161 : decode cX7_readsStatement 161 = .ok (.iconst 1, 1) := by decide +kernel
theorem dX7_readsStatement_162 : decode cX7_readsStatement 162 = .ok (.invokevirtual 183, 3) := by decide +kernel
theorem dX7_readsStatement_165 : decode cX7_readsStatement 165 = .ok (.pop, 1) := by decide +kernel
theorem dX7_readsStatement_166 : decode cX7_readsStatement 166 = .ok (.aload_n 0, 1) := by decide +kernel
theorem dX7_readsStatement_167 : decode cX7_readsStatement 167 = .ok (.invokevirtual 204, 3) := by decide +kernel
theorem dX7_readsStatement_170 : decode cX7_readsStatement 170 = .ok (.return_, 1) := by decide +kernel
theorem dX7_laysRulesAside_0 : decode cX7_laysRulesAside 0 = .ok (.aload_n 0, 1) := by decide +kernel
theorem dX7_laysRulesAside_1 : decode cX7_laysRulesAside 1 = .ok (.getfield 26, 3) := by decide +kernel
theorem dX7_laysRulesAside_4 : decode cX7_laysRulesAside 4 = .ok (.iconst 0, 1) := by decide +kernel
theorem dX7_laysRulesAside_5 : decode cX7_laysRulesAside 5 = .ok (.aload_n 0, 1) := by decide +kernel
theorem dX7_laysRulesAside_6 : decode cX7_laysRulesAside 6 = .ok (.getfield 35, 3) := by decide +kernel
theorem dX7_laysRulesAside_9 : decode cX7_laysRulesAside 9 = .ok (.iconst 0, 1) := by decide +kernel
theorem dX7_laysRulesAside_10 : decode cX7_laysRulesAside 10 = .ok (.bipush 6, 2) := by decide +kernel
theorem dX7_laysRulesAside_12 : decode cX7_laysRulesAside 12 = .ok (.invokestatic 252, 3) := by decide +kernel
theorem dX7_laysRulesAside_15 : decode cX7_laysRulesAside 15 = .ok (.aload_n 0, 1) := by decide +kernel
theorem dX7_laysRulesAside_16 : decode cX7_laysRulesAside 16 = .ok (.getfield 29, 3) := by decide +kernel
theorem dX7_laysRulesAside_19 : decode cX7_laysRulesAside 19 = .ok (.iconst 0, 1) := by decide +kernel
theorem dX7_laysRulesAside_20 : decode cX7_laysRulesAside 20 = .ok (.aload_n 0, 1) := by decide +kernel
theorem dX7_laysRulesAside_21 : decode cX7_laysRulesAside 21 = .ok (.getfield 38, 3) := by decide +kernel
theorem dX7_laysRulesAside_24 : decode cX7_laysRulesAside 24 = .ok (.iconst 0, 1) := by decide +kernel
theorem dX7_laysRulesAside_25 : decode cX7_laysRulesAside 25 = .ok (.bipush 6, 2) := by decide +kernel
theorem dX7_laysRulesAside_27 : decode cX7_laysRulesAside 27 = .ok (.invokestatic 252, 3) := by decide +kernel
theorem dX7_laysRulesAside_30 : decode cX7_laysRulesAside 30 = .ok (.aload_n 0, 1) := by decide +kernel
theorem dX7_laysRulesAside_31 : decode cX7_laysRulesAside 31 = .ok (.getfield 32, 3) := by decide +kernel
theorem dX7_laysRulesAside_34 : decode cX7_laysRulesAside 34 = .ok (.iconst 0, 1) := by decide +kernel
theorem dX7_laysRulesAside_35 : decode cX7_laysRulesAside 35 = .ok (.aload_n 0, 1) := by decide +kernel
theorem dX7_laysRulesAside_36 : decode cX7_laysRulesAside 36 = .ok (.getfield 41, 3) := by decide +kernel
theorem dX7_laysRulesAside_39 : decode cX7_laysRulesAside 39 = .ok (.iconst 0, 1) := by decide +kernel
theorem dX7_laysRulesAside_40 : decode cX7_laysRulesAside 40 = .ok (.bipush 48, 2) := by decide +kernel
theorem dX7_laysRulesAside_42 : decode cX7_laysRulesAside 42 = .ok (.invokestatic 252, 3) := by decide +kernel
theorem dX7_laysRulesAside_45 : decode cX7_laysRulesAside 45 = .ok (.iconst 0, 1) := by decide +kernel
theorem dX7_laysRulesAside_46 : decode cX7_laysRulesAside 46 = .ok (.istore_n 1, 1) := by decide +kernel
theorem dX7_laysRulesAside_47 : decode cX7_laysRulesAside 47 = .ok (.iload_n 1, 1) := by decide +kernel
theorem dX7_laysRulesAside_48 : decode cX7_laysRulesAside 48 = .ok (.bipush 6, 2) := by decide +kernel
theorem dX7_laysRulesAside_50 : decode cX7_laysRulesAside 50 = .ok (.if_icmp .ge 21, 3) := by decide +kernel
theorem dX7_laysRulesAside_53 : decode cX7_laysRulesAside 53 = .ok (.aload_n 0, 1) := by decide +kernel
theorem dX7_laysRulesAside_54 : decode cX7_laysRulesAside 54 = .ok (.getfield 51, 3) := by decide +kernel
theorem dX7_laysRulesAside_57 : decode cX7_laysRulesAside 57 = .ok (.iload_n 1, 1) := by decide +kernel
theorem dX7_laysRulesAside_58 : decode cX7_laysRulesAside 58 = .ok (.aload_n 0, 1) := by decide +kernel
theorem dX7_laysRulesAside_59 : decode cX7_laysRulesAside 59 = .ok (.getfield 47, 3) := by decide +kernel
theorem dX7_laysRulesAside_62 : decode cX7_laysRulesAside 62 = .ok (.iload_n 1, 1) := by decide +kernel
theorem dX7_laysRulesAside_63 : decode cX7_laysRulesAside 63 = .ok (.laload, 1) := by decide +kernel
theorem dX7_laysRulesAside_64 : decode cX7_laysRulesAside 64 = .ok (.lastore, 1) := by decide +kernel
theorem dX7_laysRulesAside_65 : decode cX7_laysRulesAside 65 = .ok (.iinc 1 1, 3) := by decide +kernel
theorem dX7_laysRulesAside_68 : decode cX7_laysRulesAside 68 = .ok (.goto (-21), 3) := by decide +kernel
theorem dX7_laysRulesAside_71 : decode cX7_laysRulesAside 71 = .ok (.return_, 1) := by decide +kernel
theorem dX7_takesRulesBack_0 : decode cX7_takesRulesBack 0 = .ok (.aload_n 0, 1) := by decide +kernel
theorem dX7_takesRulesBack_1 : decode cX7_takesRulesBack 1 = .ok (.getfield 35, 3) := by decide +kernel
theorem dX7_takesRulesBack_4 : decode cX7_takesRulesBack 4 = .ok (.iconst 0, 1) := by decide +kernel
theorem dX7_takesRulesBack_5 : decode cX7_takesRulesBack 5 = .ok (.aload_n 0, 1) := by decide +kernel
theorem dX7_takesRulesBack_6 : decode cX7_takesRulesBack 6 = .ok (.getfield 26, 3) := by decide +kernel
theorem dX7_takesRulesBack_9 : decode cX7_takesRulesBack 9 = .ok (.iconst 0, 1) := by decide +kernel
theorem dX7_takesRulesBack_10 : decode cX7_takesRulesBack 10 = .ok (.bipush 6, 2) := by decide +kernel
theorem dX7_takesRulesBack_12 : decode cX7_takesRulesBack 12 = .ok (.invokestatic 252, 3) := by decide +kernel
theorem dX7_takesRulesBack_15 : decode cX7_takesRulesBack 15 = .ok (.aload_n 0, 1) := by decide +kernel
theorem dX7_takesRulesBack_16 : decode cX7_takesRulesBack 16 = .ok (.getfield 38, 3) := by decide +kernel
theorem dX7_takesRulesBack_19 : decode cX7_takesRulesBack 19 = .ok (.iconst 0, 1) := by decide +kernel
theorem dX7_takesRulesBack_20 : decode cX7_takesRulesBack 20 = .ok (.aload_n 0, 1) := by decide +kernel
theorem dX7_takesRulesBack_21 : decode cX7_takesRulesBack 21 = .ok (.getfield 29, 3) := by decide +kernel
theorem dX7_takesRulesBack_24 : decode cX7_takesRulesBack 24 = .ok (.iconst 0, 1) := by decide +kernel
theorem dX7_takesRulesBack_25 : decode cX7_takesRulesBack 25 = .ok (.bipush 6, 2) := by decide +kernel
theorem dX7_takesRulesBack_27 : decode cX7_takesRulesBack 27 = .ok (.invokestatic 252, 3) := by decide +kernel
theorem dX7_takesRulesBack_30 : decode cX7_takesRulesBack 30 = .ok (.aload_n 0, 1) := by decide +kernel
theorem dX7_takesRulesBack_31 : decode cX7_takesRulesBack 31 = .ok (.getfield 41, 3) := by decide +kernel
theorem dX7_takesRulesBack_34 : decode cX7_takesRulesBack 34 = .ok (.iconst 0, 1) := by decide +kernel
theorem dX7_takesRulesBack_35 : decode cX7_takesRulesBack 35 = .ok (.aload_n 0, 1) := by decide +kernel
theorem dX7_takesRulesBack_36 : decode cX7_takesRulesBack 36 = .ok (.getfield 32, 3) := by decide +kernel
theorem dX7_takesRulesBack_39 : decode cX7_takesRulesBack 39 = .ok (.iconst 0, 1) := by decide +kernel
theorem dX7_takesRulesBack_40 : decode cX7_takesRulesBack 40 = .ok (.bipush 48, 2) := by decide +kernel
theorem dX7_takesRulesBack_42 : decode cX7_takesRulesBack 42 = .ok (.invokestatic 252, 3) := by decide +kernel
theorem dX7_takesRulesBack_45 : decode cX7_takesRulesBack 45 = .ok (.iconst 0, 1) := by decide +kernel
theorem dX7_takesRulesBack_46 : decode cX7_takesRulesBack 46 = .ok (.istore_n 1, 1) := by decide +kernel
theorem dX7_takesRulesBack_47 : decode cX7_takesRulesBack 47 = .ok (.iload_n 1, 1) := by decide +kernel
theorem dX7_takesRulesBack_48 : decode cX7_takesRulesBack 48 = .ok (.bipush 6, 2) := by decide +kernel
theorem dX7_takesRulesBack_50 : decode cX7_takesRulesBack 50 = .ok (.if_icmp .ge 21, 3) := by decide +kernel
theorem dX7_takesRulesBack_53 : decode cX7_takesRulesBack 53 = .ok (.aload_n 0, 1) := by decide +kernel
theorem dX7_takesRulesBack_54 : decode cX7_takesRulesBack 54 = .ok (.getfield 47, 3) := by decide +kernel
theorem dX7_takesRulesBack_57 : decode cX7_takesRulesBack 57 = .ok (.iload_n 1, 1) := by decide +kernel
theorem dX7_takesRulesBack_58 : decode cX7_takesRulesBack 58 = .ok (.aload_n 0, 1) := by decide +kernel
theorem dX7_takesRulesBack_59 : decode cX7_takesRulesBack 59 = .ok (.getfield 51, 3) := by decide +kernel
theorem dX7_takesRulesBack_62 : decode cX7_takesRulesBack 62 = .ok (.iload_n 1, 1) := by decide +kernel
theorem dX7_takesRulesBack_63 : decode cX7_takesRulesBack 63 = .ok (.laload, 1) := by decide +kernel
theorem dX7_takesRulesBack_64 : decode cX7_takesRulesBack 64 = .ok (.lastore, 1) := by decide +kernel
theorem dX7_takesRulesBack_65 : decode cX7_takesRulesBack 65 = .ok (.iinc 1 1, 3) := by decide +kernel
theorem dX7_takesRulesBack_68 : decode cX7_takesRulesBack 68 = .ok (.goto (-21), 3) := by decide +kernel
theorem dX7_takesRulesBack_71 : decode cX7_takesRulesBack 71 = .ok (.return_, 1) := by decide +kernel
theorem dX7_parse_0 : decode cX7_parse 0 = .ok (.aload_n 0, 1) := by decide +kernel
theorem dX7_parse_1 : decode cX7_parse 1 = .ok (.iconst 0, 1) := by decide +kernel
theorem dX7_parse_2 : decode cX7_parse 2 = .ok (.putfield 73, 3) := by decide +kernel
theorem dX7_parse_5 : decode cX7_parse 5 = .ok (.aload_n 0, 1) := by decide +kernel
theorem dX7_parse_6 : decode cX7_parse 6 = .ok (.iload_n 1, 1) := by decide +kernel
theorem dX7_parse_7 : decode cX7_parse 7 = .ok (.iconst 0, 1) := by decide +kernel
theorem dX7_parse_8 : decode cX7_parse 8 = .ok (.aload_n 0, 1) := by decide +kernel
theorem dX7_parse_9 : decode cX7_parse 9 = .ok (.getfield 116, 3) := by decide +kernel
theorem dX7_parse_12 : decode cX7_parse 12 = .ok (.invokestatic 77, 3) := by decide +kernel
theorem dX7_parse_15 : decode cX7_parse 15 = .ok (.iconst 1, 1) := by decide +kernel
theorem dX7_parse_16 : decode cX7_parse 16 = .ok (.invokevirtual 256, 3) := by decide +kernel
theorem dX7_parse_19 : decode cX7_parse 19 = .ok (.ifCond .ne 5, 3) := by decide +kernel
theorem dX7_parse_22 : decode cX7_parse 22 = .ok (.iconst 0, 1) := by decide +kernel
theorem dX7_parse_23 : decode cX7_parse 23 = .ok (.ireturn, 1) := by decide +kernel
theorem dX7_parse_24 : decode cX7_parse 24 = .ok (.aload_n 0, 1) := by decide +kernel
theorem dX7_parse_25 : decode cX7_parse 25 = .ok (.getfield 98, 3) := by decide +kernel
theorem dX7_parse_28 : decode cX7_parse 28 = .ok (.istore_n 2, 1) := by decide +kernel
theorem dX7_parse_29 : decode cX7_parse 29 = .ok (.aload_n 0, 1) := by decide +kernel
theorem dX7_parse_30 : decode cX7_parse 30 = .ok (.getfield 225, 3) := by decide +kernel
theorem dX7_parse_33 : decode cX7_parse 33 = .ok (.istore_n 3, 1) := by decide +kernel
theorem dX7_parse_34 : decode cX7_parse 34 = .ok (.aload_n 0, 1) := by decide +kernel
theorem dX7_parse_35 : decode cX7_parse 35 = .ok (.getfield 7, 3) := by decide +kernel
theorem dX7_parse_38 : decode cX7_parse 38 = .ok (.iconst 0, 1) := by decide +kernel
theorem dX7_parse_39 : decode cX7_parse 39 = .ok (.aload_n 0, 1) := by decide +kernel
theorem dX7_parse_40 : decode cX7_parse 40 = .ok (.getfield 13, 3) := by decide +kernel
theorem dX7_parse_43 : decode cX7_parse 43 = .ok (.iconst 0, 1) := by decide +kernel
theorem dX7_parse_44 : decode cX7_parse 44 = .ok (.sipush 172, 3) := by decide +kernel
theorem dX7_parse_47 : decode cX7_parse 47 = .ok (.invokestatic 252, 3) := by decide +kernel
theorem dX7_parse_50 : decode cX7_parse 50 = .ok (.aload_n 0, 1) := by decide +kernel
theorem dX7_parse_51 : decode cX7_parse 51 = .ok (.invokevirtual 259, 3) := by decide +kernel
theorem dX7_parse_54 : decode cX7_parse 54 = .ok (.aload_n 0, 1) := by decide +kernel
theorem dX7_parse_55 : decode cX7_parse 55 = .ok (.iload_n 1, 1) := by decide +kernel
theorem dX7_parse_56 : decode cX7_parse 56 = .ok (.putfield 119, 3) := by decide +kernel
theorem dX7_parse_59 : decode cX7_parse 59 = .ok (.aload_n 0, 1) := by decide +kernel
theorem dX7_parse_60 : decode cX7_parse 60 = .ok (.iconst 0, 1) := by decide +kernel
theorem dX7_parse_61 : decode cX7_parse 61 = .ok (.putfield 116, 3) := by decide +kernel
theorem dX7_parse_64 : decode cX7_parse 64 = .ok (.aload_n 0, 1) := by decide +kernel
theorem dX7_parse_65 : decode cX7_parse 65 = .ok (.iconst 0, 1) := by decide +kernel
theorem dX7_parse_66 : decode cX7_parse 66 = .ok (.putfield 126, 3) := by decide +kernel
theorem dX7_parse_69 : decode cX7_parse 69 = .ok (.aload_n 0, 1) := by decide +kernel
theorem dX7_parse_70 : decode cX7_parse 70 = .ok (.iconst 0, 1) := by decide +kernel
theorem dX7_parse_71 : decode cX7_parse 71 = .ok (.putfield 158, 3) := by decide +kernel
theorem dX7_parse_74 : decode cX7_parse 74 = .ok (.aload_n 0, 1) := by decide +kernel
theorem dX7_parse_75 : decode cX7_parse 75 = .ok (.iconst 0, 1) := by decide +kernel
theorem dX7_parse_76 : decode cX7_parse 76 = .ok (.putfield 98, 3) := by decide +kernel
theorem dX7_parse_79 : decode cX7_parse 79 = .ok (.aload_n 0, 1) := by decide +kernel
theorem dX7_parse_80 : decode cX7_parse 80 = .ok (.iconst 0, 1) := by decide +kernel
theorem dX7_parse_81 : decode cX7_parse 81 = .ok (.putfield 225, 3) := by decide +kernel
theorem dX7_parse_84 : decode cX7_parse 84 = .ok (.aload_n 0, 1) := by decide +kernel
theorem dX7_parse_85 : decode cX7_parse 85 = .ok (.iconst 0, 1) := by decide +kernel
theorem dX7_parse_86 : decode cX7_parse 86 = .ok (.putfield 221, 3) := by decide +kernel
theorem dX7_parse_89 : decode cX7_parse 89 = .ok (.aload_n 0, 1) := by decide +kernel
theorem dX7_parse_90 : decode cX7_parse 90 = .ok (.iconst 0, 1) := by decide +kernel
theorem dX7_parse_91 : decode cX7_parse 91 = .ok (.putfield 244, 3) := by decide +kernel
theorem dX7_parse_94 : decode cX7_parse 94 = .ok (.aload_n 0, 1) := by decide +kernel
theorem dX7_parse_95 : decode cX7_parse 95 = .ok (.iconst 0, 1) := by decide +kernel
theorem dX7_parse_96 : decode cX7_parse 96 = .ok (.putfield 249, 3) := by decide +kernel
theorem dX7_parse_99 : decode cX7_parse 99 = .ok (.iconst 0, 1) := by decide +kernel
theorem dX7_parse_100 : decode cX7_parse 100 = .ok (.istore 4, 2) := by decide +kernel
theorem dX7_parse_102 : decode cX7_parse 102 = .ok (.iload 4, 2) := by decide +kernel
theorem dX7_parse_104 : decode cX7_parse 104 = .ok (.sipush 172, 3) := by decide +kernel
theorem dX7_parse_107 : decode cX7_parse 107 = .ok (.if_icmp .ge 17, 3) := by decide +kernel
theorem dX7_parse_110 : decode cX7_parse 110 = .ok (.aload_n 0, 1) := by decide +kernel
theorem dX7_parse_111 : decode cX7_parse 111 = .ok (.getfield 7, 3) := by decide +kernel
theorem dX7_parse_114 : decode cX7_parse 114 = .ok (.iload 4, 2) := by decide +kernel
theorem dX7_parse_116 : decode cX7_parse 116 = .ok (.iconst 0, 1) := by decide +kernel
theorem dX7_parse_117 : decode cX7_parse 117 = .ok (.iastore, 1) := by decide +kernel
theorem dX7_parse_118 : decode cX7_parse 118 = .ok (.iinc 4 1, 3) := by decide +kernel
theorem dX7_parse_121 : decode cX7_parse 121 = .ok (.goto (-19), 3) := by decide +kernel
theorem dX7_parse_124 : decode cX7_parse 124 = .ok (.aload_n 0, 1) := by decide +kernel
theorem dX7_parse_125 : decode cX7_parse 125 = .ok (.invokevirtual 168, 3) := by decide +kernel
theorem dX7_parse_128 : decode cX7_parse 128 = .ok (.aload_n 0, 1) := by decide +kernel
theorem dX7_parse_129 : decode cX7_parse 129 = .ok (.invokevirtual 161, 3) := by decide +kernel
theorem dX7_parse_132 : decode cX7_parse 132 = .ok (.ifCond .eq 17, 3) := by decide +kernel
theorem dX7_parse_135 : decode cX7_parse 135 = .ok (.aload_n 0, 1) := by decide +kernel
theorem dX7_parse_136 : decode cX7_parse 136 = .ok (.getfield 143, 3) := by decide +kernel
theorem dX7_parse_139 : decode cX7_parse 139 = .ok (.ifCond .eq 10, 3) := by decide +kernel
theorem dX7_parse_142 : decode cX7_parse 142 = .ok (.aload_n 0, 1) := by decide +kernel
theorem dX7_parse_143 : decode cX7_parse 143 = .ok (.invokevirtual 262, 3) := by decide +kernel
theorem dX7_parse_146 : decode cX7_parse 146 = .ok (.goto (-18), 3) := by decide +kernel
theorem dX7_parse_149 : decode cX7_parse 149 = .ok (.aload_n 0, 1) := by decide +kernel
theorem dX7_parse_150 : decode cX7_parse 150 = .ok (.invokevirtual 161, 3) := by decide +kernel
theorem dX7_parse_153 : decode cX7_parse 153 = .ok (.ifCond .eq 45, 3) := by decide +kernel
theorem dX7_parse_156 : decode cX7_parse 156 = .ok (.aload_n 0, 1) := by decide +kernel
theorem dX7_parse_157 : decode cX7_parse 157 = .ok (.invokevirtual 265, 3) := by decide +kernel
theorem dX7_parse_160 : decode cX7_parse 160 = .ok (.aload_n 0, 1) := by decide +kernel
theorem dX7_parse_161 : decode cX7_parse 161 = .ok (.iconst 0, 1) := by decide +kernel
theorem dX7_parse_162 : decode cX7_parse 162 = .ok (.putfield 268, 3) := by decide +kernel
theorem dX7_parse_165 : decode cX7_parse 165 = .ok (.aload_n 0, 1) := by decide +kernel
theorem dX7_parse_166 : decode cX7_parse 166 = .ok (.iconst 0, 1) := by decide +kernel
theorem dX7_parse_167 : decode cX7_parse 167 = .ok (.putfield 271, 3) := by decide +kernel
theorem dX7_parse_170 : decode cX7_parse 170 = .ok (.iconst 0, 1) := by decide +kernel
theorem dX7_parse_171 : decode cX7_parse 171 = .ok (.istore 4, 2) := by decide +kernel
theorem dX7_parse_173 : decode cX7_parse 173 = .ok (.iload 4, 2) := by decide +kernel
theorem dX7_parse_175 : decode cX7_parse 175 = .ok (.iconst 2, 1) := by decide +kernel
theorem dX7_parse_176 : decode cX7_parse 176 = .ok (.if_icmp .ge 17, 3) := by decide +kernel
theorem dX7_parse_179 : decode cX7_parse 179 = .ok (.aload_n 0, 1) := by decide +kernel
theorem dX7_parse_180 : decode cX7_parse 180 = .ok (.getfield 22, 3) := by decide +kernel
theorem dX7_parse_183 : decode cX7_parse 183 = .ok (.iload 4, 2) := by decide +kernel
theorem dX7_parse_185 : decode cX7_parse 185 = .ok (.iconst 0, 1) := by decide +kernel
theorem dX7_parse_186 : decode cX7_parse 186 = .ok (.bastore, 1) := by decide +kernel
theorem dX7_parse_187 : decode cX7_parse 187 = .ok (.iinc 4 1, 3) := by decide +kernel
theorem dX7_parse_190 : decode cX7_parse 190 = .ok (.goto (-17), 3) := by decide +kernel
theorem dX7_parse_193 : decode cX7_parse 193 = .ok (.aload_n 0, 1) := by decide +kernel
theorem dX7_parse_194 : decode cX7_parse 194 = .ok (.getfield 98, 3) := by decide +kernel
theorem dX7_parse_197 : decode cX7_parse 197 = .ok (.ireturn, 1) := by decide +kernel
theorem dX7_parse_198 : decode cX7_parse 198 = .ok (.aload_n 0, 1) := by decide +kernel
theorem dX7_parse_199 : decode cX7_parse 199 = .ok (.iload_n 2, 1) := by decide +kernel
theorem dX7_parse_200 : decode cX7_parse 200 = .ok (.putfield 98, 3) := by decide +kernel
theorem dX7_parse_203 : decode cX7_parse 203 = .ok (.aload_n 0, 1) := by decide +kernel
theorem dX7_parse_204 : decode cX7_parse 204 = .ok (.iload_n 3, 1) := by decide +kernel
theorem dX7_parse_205 : decode cX7_parse 205 = .ok (.putfield 225, 3) := by decide +kernel
theorem dX7_parse_208 : decode cX7_parse 208 = .ok (.aload_n 0, 1) := by decide +kernel
theorem dX7_parse_209 : decode cX7_parse 209 = .ok (.getfield 13, 3) := by decide +kernel
theorem dX7_parse_212 : decode cX7_parse 212 = .ok (.iconst 0, 1) := by decide +kernel
theorem dX7_parse_213 : decode cX7_parse 213 = .ok (.aload_n 0, 1) := by decide +kernel
theorem dX7_parse_214 : decode cX7_parse 214 = .ok (.getfield 7, 3) := by decide +kernel
theorem dX7_parse_217 : decode cX7_parse 217 = .ok (.iconst 0, 1) := by decide +kernel
theorem dX7_parse_218 : decode cX7_parse 218 = .ok (.sipush 172, 3) := by decide +kernel
theorem dX7_parse_221 : decode cX7_parse 221 = .ok (.invokestatic 252, 3) := by decide +kernel
theorem dX7_parse_224 : decode cX7_parse 224 = .ok (.aload_n 0, 1) := by decide +kernel
theorem dX7_parse_225 : decode cX7_parse 225 = .ok (.invokevirtual 274, 3) := by decide +kernel
theorem dX7_parse_228 : decode cX7_parse 228 = .ok (.bipush (-2), 2) := by decide +kernel
theorem dX7_parse_230 : decode cX7_parse 230 = .ok (.bipush 8, 2) := by decide +kernel
theorem dX7_parse_232 : decode cX7_parse 232 = .ok (.aload_n 0, 1) := by decide +kernel
theorem dX7_parse_233 : decode cX7_parse 233 = .ok (.getfield 165, 3) := by decide +kernel
theorem dX7_parse_236 : decode cX7_parse 236 = .ok (.imul, 1) := by decide +kernel
theorem dX7_parse_237 : decode cX7_parse 237 = .ok (.aload_n 0, 1) := by decide +kernel
theorem dX7_parse_238 : decode cX7_parse 238 = .ok (.getfield 158, 3) := by decide +kernel
theorem dX7_parse_241 : decode cX7_parse 241 = .ok (.iadd, 1) := by decide +kernel
theorem dX7_parse_242 : decode cX7_parse 242 = .ok (.isub, 1) := by decide +kernel
theorem dX7_parse_243 : decode cX7_parse 243 = .ok (.ireturn, 1) := by decide +kernel
theorem dX7_positions_0 : decode cX7_positions 0 = .ok (.iconst 1, 1) := by decide +kernel
theorem dX7_positions_1 : decode cX7_positions 1 = .ok (.iconst 4, 1) := by decide +kernel
theorem dX7_positions_2 : decode cX7_positions 2 = .ok (.aload_n 0, 1) := by decide +kernel
theorem dX7_positions_3 : decode cX7_positions 3 = .ok (.getfield 7, 3) := by decide +kernel
theorem dX7_positions_6 : decode cX7_positions 6 = .ok (.iconst 0, 1) := by decide +kernel
theorem dX7_positions_7 : decode cX7_positions 7 = .ok (.iaload, 1) := by decide +kernel
theorem dX7_positions_8 : decode cX7_positions 8 = .ok (.imul, 1) := by decide +kernel
theorem dX7_positions_9 : decode cX7_positions 9 = .ok (.ishl, 1) := by decide +kernel
theorem dX7_positions_10 : decode cX7_positions 10 = .ok (.ireturn, 1) := by decide +kernel
theorem dX7_weight_0 : decode cX7_weight 0 = .ok (.iconst 1, 1) := by decide +kernel
theorem dX7_weight_1 : decode cX7_weight 1 = .ok (.iconst 4, 1) := by decide +kernel
theorem dX7_weight_2 : decode cX7_weight 2 = .ok (.iload_n 0, 1) := by decide +kernel
theorem dX7_weight_3 : decode cX7_weight 3 = .ok (.imul, 1) := by decide +kernel
theorem dX7_weight_4 : decode cX7_weight 4 = .ok (.ishl, 1) := by decide +kernel
theorem dX7_weight_5 : decode cX7_weight 5 = .ok (.ireturn, 1) := by decide +kernel
theorem dX7_valueAt_0 : decode cX7_valueAt 0 = .ok (.aload_n 0, 1) := by decide +kernel
theorem dX7_valueAt_1 : decode cX7_valueAt 1 = .ok (.getfield 67, 3) := by decide +kernel
theorem dX7_valueAt_4 : decode cX7_valueAt 4 = .ok (.iload_n 1, 1) := by decide +kernel
theorem dX7_valueAt_5 : decode cX7_valueAt 5 = .ok (.iaload, 1) := by decide +kernel
theorem dX7_valueAt_6 : decode cX7_valueAt 6 = .ok (.bipush 127, 2) := by decide +kernel
theorem dX7_valueAt_8 : decode cX7_valueAt 8 = .ok (.iand, 1) := by decide +kernel
theorem dX7_valueAt_9 : decode cX7_valueAt 9 = .ok (.ireturn, 1) := by decide +kernel
theorem dX7_isWonAt_0 : decode cX7_isWonAt 0 = .ok (.aload_n 0, 1) := by decide +kernel
theorem dX7_isWonAt_1 : decode cX7_isWonAt 1 = .ok (.getfield 67, 3) := by decide +kernel
theorem dX7_isWonAt_4 : decode cX7_isWonAt 4 = .ok (.iload_n 1, 1) := by decide +kernel
theorem dX7_isWonAt_5 : decode cX7_isWonAt 5 = .ok (.iaload, 1) := by decide +kernel
theorem dX7_isWonAt_6 : decode cX7_isWonAt 6 = .ok (.bipush 7, 2) := by decide +kernel
theorem dX7_isWonAt_8 : decode cX7_isWonAt 8 = .ok (.ishr, 1) := by decide +kernel
theorem dX7_isWonAt_9 : decode cX7_isWonAt 9 = .ok (.iconst 1, 1) := by decide +kernel
theorem dX7_isWonAt_10 : decode cX7_isWonAt 10 = .ok (.iand, 1) := by decide +kernel
theorem dX7_isWonAt_11 : decode cX7_isWonAt 11 = .ok (.iconst 1, 1) := by decide +kernel
theorem dX7_isWonAt_12 : decode cX7_isWonAt 12 = .ok (.if_icmp .ne 7, 3) := by decide +kernel
theorem dX7_isWonAt_15 : decode cX7_isWonAt 15 = .ok (.iconst 1, 1) := by decide +kernel
theorem dX7_isWonAt_16 : decode cX7_isWonAt 16 = .ok (.goto 4, 3) := by decide +kernel
theorem dX7_isWonAt_19 : decode cX7_isWonAt 19 = .ok (.iconst 0, 1) := by decide +kernel
theorem dX7_isWonAt_20 : decode cX7_isWonAt 20 = .ok (.ireturn, 1) := by decide +kernel
theorem dX7_lengthAt_0 : decode cX7_lengthAt 0 = .ok (.aload_n 0, 1) := by decide +kernel
theorem dX7_lengthAt_1 : decode cX7_lengthAt 1 = .ok (.getfield 67, 3) := by decide +kernel
theorem dX7_lengthAt_4 : decode cX7_lengthAt 4 = .ok (.iload_n 1, 1) := by decide +kernel
theorem dX7_lengthAt_5 : decode cX7_lengthAt 5 = .ok (.iaload, 1) := by decide +kernel
theorem dX7_lengthAt_6 : decode cX7_lengthAt 6 = .ok (.bipush 8, 2) := by decide +kernel
theorem dX7_lengthAt_8 : decode cX7_lengthAt 8 = .ok (.ishr, 1) := by decide +kernel
theorem dX7_lengthAt_9 : decode cX7_lengthAt 9 = .ok (.ireturn, 1) := by decide +kernel
theorem dX7_isLaidSo_0 : decode cX7_isLaidSo 0 = .ok (.aload_n 0, 1) := by decide +kernel
theorem dX7_isLaidSo_1 : decode cX7_isLaidSo 1 = .ok (.getfield 268, 3) := by decide +kernel
theorem dX7_isLaidSo_4 : decode cX7_isLaidSo 4 = .ok (.ifCond .eq 30, 3) := by decide +kernel
theorem dX7_isLaidSo_7 : decode cX7_isLaidSo 7 = .ok (.aload_n 0, 1) := by decide +kernel
theorem dX7_isLaidSo_8 : decode cX7_isLaidSo 8 = .ok (.getfield 277, 3) := by decide +kernel
theorem dX7_isLaidSo_11 : decode cX7_isLaidSo 11 = .ok (.aload_n 0, 1) := by decide +kernel
theorem dX7_isLaidSo_12 : decode cX7_isLaidSo 12 = .ok (.getfield 7, 3) := by decide +kernel
theorem dX7_isLaidSo_15 : decode cX7_isLaidSo 15 = .ok (.iconst 0, 1) := by decide +kernel
theorem dX7_isLaidSo_16 : decode cX7_isLaidSo 16 = .ok (.iaload, 1) := by decide +kernel
theorem dX7_isLaidSo_17 : decode cX7_isLaidSo 17 = .ok (.if_icmp .ne 17, 3) := by decide +kernel
theorem dX7_isLaidSo_20 : decode cX7_isLaidSo 20 = .ok (.aload_n 0, 1) := by decide +kernel
theorem dX7_isLaidSo_21 : decode cX7_isLaidSo 21 = .ok (.getfield 280, 3) := by decide +kernel
theorem dX7_isLaidSo_24 : decode cX7_isLaidSo 24 = .ok (.aload_n 0, 1) := by decide +kernel
theorem dX7_isLaidSo_25 : decode cX7_isLaidSo 25 = .ok (.getfield 7, 3) := by decide +kernel
theorem dX7_isLaidSo_28 : decode cX7_isLaidSo 28 = .ok (.bipush 10, 2) := by decide +kernel
theorem dX7_isLaidSo_30 : decode cX7_isLaidSo 30 = .ok (.iaload, 1) := by decide +kernel
theorem dX7_isLaidSo_31 : decode cX7_isLaidSo 31 = .ok (.if_icmp .eq 5, 3) := by decide +kernel
theorem dX7_isLaidSo_34 : decode cX7_isLaidSo 34 = .ok (.iconst 0, 1) := by decide +kernel
theorem dX7_isLaidSo_35 : decode cX7_isLaidSo 35 = .ok (.ireturn, 1) := by decide +kernel
theorem dX7_isLaidSo_36 : decode cX7_isLaidSo 36 = .ok (.iconst 0, 1) := by decide +kernel
theorem dX7_isLaidSo_37 : decode cX7_isLaidSo 37 = .ok (.istore_n 1, 1) := by decide +kernel
theorem dX7_isLaidSo_38 : decode cX7_isLaidSo 38 = .ok (.iload_n 1, 1) := by decide +kernel
theorem dX7_isLaidSo_39 : decode cX7_isLaidSo 39 = .ok (.aload_n 0, 1) := by decide +kernel
theorem dX7_isLaidSo_40 : decode cX7_isLaidSo 40 = .ok (.getfield 7, 3) := by decide +kernel
theorem dX7_isLaidSo_43 : decode cX7_isLaidSo 43 = .ok (.iconst 0, 1) := by decide +kernel
theorem dX7_isLaidSo_44 : decode cX7_isLaidSo 44 = .ok (.iaload, 1) := by decide +kernel
theorem dX7_isLaidSo_45 : decode cX7_isLaidSo 45 = .ok (.if_icmp .ge 28, 3) := by decide +kernel
theorem dX7_isLaidSo_48 : decode cX7_isLaidSo 48 = .ok (.aload_n 0, 1) := by decide +kernel
theorem dX7_isLaidSo_49 : decode cX7_isLaidSo 49 = .ok (.getfield 70, 3) := by decide +kernel
theorem dX7_isLaidSo_52 : decode cX7_isLaidSo 52 = .ok (.iload_n 1, 1) := by decide +kernel
theorem dX7_isLaidSo_53 : decode cX7_isLaidSo 53 = .ok (.iaload, 1) := by decide +kernel
theorem dX7_isLaidSo_54 : decode cX7_isLaidSo 54 = .ok (.aload_n 0, 1) := by decide +kernel
theorem dX7_isLaidSo_55 : decode cX7_isLaidSo 55 = .ok (.getfield 7, 3) := by decide +kernel
theorem dX7_isLaidSo_58 : decode cX7_isLaidSo 58 = .ok (.iconst 1, 1) := by decide +kernel
theorem dX7_isLaidSo_59 : decode cX7_isLaidSo 59 = .ok (.iload_n 1, 1) := by decide +kernel
theorem dX7_isLaidSo_60 : decode cX7_isLaidSo 60 = .ok (.iadd, 1) := by decide +kernel
theorem dX7_isLaidSo_61 : decode cX7_isLaidSo 61 = .ok (.iaload, 1) := by decide +kernel
theorem dX7_isLaidSo_62 : decode cX7_isLaidSo 62 = .ok (.if_icmp .eq 5, 3) := by decide +kernel
theorem dX7_isLaidSo_65 : decode cX7_isLaidSo 65 = .ok (.iconst 0, 1) := by decide +kernel
theorem dX7_isLaidSo_66 : decode cX7_isLaidSo 66 = .ok (.ireturn, 1) := by decide +kernel
theorem dX7_isLaidSo_67 : decode cX7_isLaidSo 67 = .ok (.iinc 1 1, 3) := by decide +kernel
theorem dX7_isLaidSo_70 : decode cX7_isLaidSo 70 = .ok (.goto (-32), 3) := by decide +kernel
theorem dX7_isLaidSo_73 : decode cX7_isLaidSo 73 = .ok (.iconst 1, 1) := by decide +kernel
theorem dX7_isLaidSo_74 : decode cX7_isLaidSo 74 = .ok (.ireturn, 1) := by decide +kernel
theorem dX7_lays_0 : decode cX7_lays 0 = .ok (.aload_n 0, 1) := by decide +kernel
theorem dX7_lays_1 : decode cX7_lays 1 = .ok (.invokevirtual 283, 3) := by decide +kernel
theorem dX7_lays_4 : decode cX7_lays 4 = .ok (.ifCond .eq 4, 3) := by decide +kernel
theorem dX7_lays_7 : decode cX7_lays 7 = .ok (.return_, 1) := by decide +kernel
theorem dX7_lays_8 : decode cX7_lays 8 = .ok (.aload_n 0, 1) := by decide +kernel
theorem dX7_lays_9 : decode cX7_lays 9 = .ok (.iconst 1, 1) := by decide +kernel
theorem dX7_lays_10 : decode cX7_lays 10 = .ok (.putfield 268, 3) := by decide +kernel
theorem dX7_lays_13 : decode cX7_lays 13 = .ok (.aload_n 0, 1) := by decide +kernel
theorem dX7_lays_14 : decode cX7_lays 14 = .ok (.aload_n 0, 1) := by decide +kernel
theorem dX7_lays_15 : decode cX7_lays 15 = .ok (.getfield 7, 3) := by decide +kernel
theorem dX7_lays_18 : decode cX7_lays 18 = .ok (.iconst 0, 1) := by decide +kernel
theorem dX7_lays_19 : decode cX7_lays 19 = .ok (.iaload, 1) := by decide +kernel
theorem dX7_lays_20 : decode cX7_lays 20 = .ok (.putfield 277, 3) := by decide +kernel
theorem dX7_lays_23 : decode cX7_lays 23 = .ok (.aload_n 0, 1) := by decide +kernel
theorem dX7_lays_24 : decode cX7_lays 24 = .ok (.aload_n 0, 1) := by decide +kernel
theorem dX7_lays_25 : decode cX7_lays 25 = .ok (.getfield 7, 3) := by decide +kernel
theorem dX7_lays_28 : decode cX7_lays 28 = .ok (.bipush 10, 2) := by decide +kernel
theorem dX7_lays_30 : decode cX7_lays 30 = .ok (.iaload, 1) := by decide +kernel
theorem dX7_lays_31 : decode cX7_lays 31 = .ok (.putfield 280, 3) := by decide +kernel
theorem dX7_lays_34 : decode cX7_lays 34 = .ok (.iconst 0, 1) := by decide +kernel
theorem dX7_lays_35 : decode cX7_lays 35 = .ok (.istore_n 1, 1) := by decide +kernel
theorem dX7_lays_36 : decode cX7_lays 36 = .ok (.iload_n 1, 1) := by decide +kernel
theorem dX7_lays_37 : decode cX7_lays 37 = .ok (.aload_n 0, 1) := by decide +kernel
theorem dX7_lays_38 : decode cX7_lays 38 = .ok (.getfield 7, 3) := by decide +kernel
theorem dX7_lays_41 : decode cX7_lays 41 = .ok (.iconst 0, 1) := by decide +kernel
theorem dX7_lays_42 : decode cX7_lays 42 = .ok (.iaload, 1) := by decide +kernel
theorem dX7_lays_43 : decode cX7_lays 43 = .ok (.if_icmp .ge 23, 3) := by decide +kernel
theorem dX7_lays_46 : decode cX7_lays 46 = .ok (.aload_n 0, 1) := by decide +kernel
theorem dX7_lays_47 : decode cX7_lays 47 = .ok (.getfield 70, 3) := by decide +kernel
theorem dX7_lays_50 : decode cX7_lays 50 = .ok (.iload_n 1, 1) := by decide +kernel
theorem dX7_lays_51 : decode cX7_lays 51 = .ok (.aload_n 0, 1) := by decide +kernel
theorem dX7_lays_52 : decode cX7_lays 52 = .ok (.getfield 7, 3) := by decide +kernel
theorem dX7_lays_55 : decode cX7_lays 55 = .ok (.iconst 1, 1) := by decide +kernel
theorem dX7_lays_56 : decode cX7_lays 56 = .ok (.iload_n 1, 1) := by decide +kernel
theorem dX7_lays_57 : decode cX7_lays 57 = .ok (.iadd, 1) := by decide +kernel
theorem dX7_lays_58 : decode cX7_lays 58 = .ok (.iaload, 1) := by decide +kernel
theorem dX7_lays_59 : decode cX7_lays 59 = .ok (.iastore, 1) := by decide +kernel
theorem dX7_lays_60 : decode cX7_lays 60 = .ok (.iinc 1 1, 3) := by decide +kernel
theorem dX7_lays_63 : decode cX7_lays 63 = .ok (.goto (-27), 3) := by decide +kernel
theorem dX7_lays_66 : decode cX7_lays 66 = .ok (.iconst 0, 1) := by decide +kernel
theorem dX7_lays_67 : decode cX7_lays 67 = .ok (.istore_n 1, 1) := by decide +kernel
theorem dX7_lays_68 : decode cX7_lays 68 = .ok (.iload_n 1, 1) := by decide +kernel
theorem dX7_lays_69 : decode cX7_lays 69 = .ok (.aload_n 0, 1) := by decide +kernel
theorem dX7_lays_70 : decode cX7_lays 70 = .ok (.invokevirtual 286, 3) := by decide +kernel
theorem dX7_lays_73 : decode cX7_lays 73 = .ok (.iconst 4, 1) := by decide +kernel
theorem dX7_lays_74 : decode cX7_lays 74 = .ok (.imul, 1) := by decide +kernel
theorem dX7_lays_75 : decode cX7_lays 75 = .ok (.if_icmp .ge 14, 3) := by decide +kernel
theorem dX7_lays_78 : decode cX7_lays 78 = .ok (.aload_n 0, 1) := by decide +kernel
theorem dX7_lays_79 : decode cX7_lays 79 = .ok (.iload_n 1, 1) := by decide +kernel
theorem dX7_lays_80 : decode cX7_lays 80 = .ok (.invokevirtual 289, 3) := by decide +kernel
theorem dX7_lays_83 : decode cX7_lays 83 = .ok (.iinc 1 1, 3) := by decide +kernel
theorem dX7_lays_86 : decode cX7_lays 86 = .ok (.goto (-18), 3) := by decide +kernel
theorem dX7_lays_89 : decode cX7_lays 89 = .ok (.return_, 1) := by decide +kernel
theorem dX7_leads_0 : decode cX7_leads 0 = .ok (.aload_n 0, 1) := by decide +kernel
theorem dX7_leads_1 : decode cX7_leads 1 = .ok (.dup, 1) := by decide +kernel
theorem dX7_leads_2 : decode cX7_leads 2 = .ok (.getfield 292, 3) := by decide +kernel
theorem dX7_leads_5 : decode cX7_leads 5 = .ok (.iconst 1, 1) := by decide +kernel
theorem dX7_leads_6 : decode cX7_leads 6 = .ok (.iadd, 1) := by decide +kernel
theorem dX7_leads_7 : decode cX7_leads 7 = .ok (.putfield 292, 3) := by decide +kernel
theorem dX7_leads_10 : decode cX7_leads 10 = .ok (.aload_n 0, 1) := by decide +kernel
theorem dX7_leads_11 : decode cX7_leads 11 = .ok (.getfield 54, 3) := by decide +kernel
theorem dX7_leads_14 : decode cX7_leads 14 = .ok (.aload_n 0, 1) := by decide +kernel
theorem dX7_leads_15 : decode cX7_leads 15 = .ok (.iload_n 1, 1) := by decide +kernel
theorem dX7_leads_16 : decode cX7_leads 16 = .ok (.invokevirtual 295, 3) := by decide +kernel
theorem dX7_leads_19 : decode cX7_leads 19 = .ok (.aload_n 0, 1) := by decide +kernel
theorem dX7_leads_20 : decode cX7_leads 20 = .ok (.getfield 95, 3) := by decide +kernel
theorem dX7_leads_23 : decode cX7_leads 23 = .ok (.iastore, 1) := by decide +kernel
theorem dX7_leads_24 : decode cX7_leads 24 = .ok (.aload_n 0, 1) := by decide +kernel
theorem dX7_leads_25 : decode cX7_leads 25 = .ok (.iload_n 1, 1) := by decide +kernel
theorem dX7_leads_26 : decode cX7_leads 26 = .ok (.invokevirtual 298, 3) := by decide +kernel
theorem dX7_leads_29 : decode cX7_leads 29 = .ok (.istore_n 2, 1) := by decide +kernel
theorem dX7_leads_30 : decode cX7_leads 30 = .ok (.aload_n 0, 1) := by decide +kernel
theorem dX7_leads_31 : decode cX7_leads 31 = .ok (.iload_n 1, 1) := by decide +kernel
theorem dX7_leads_32 : decode cX7_leads 32 = .ok (.invokevirtual 301, 3) := by decide +kernel
theorem dX7_leads_35 : decode cX7_leads 35 = .ok (.ifCond .ne 24, 3) := by decide +kernel
theorem dX7_leads_38 : decode cX7_leads 38 = .ok (.aload_n 0, 1) := by decide +kernel
theorem dX7_leads_39 : decode cX7_leads 39 = .ok (.getfield 304, 3) := by decide +kernel
theorem dX7_leads_42 : decode cX7_leads 42 = .ok (.iconst (-1), 1) := by decide +kernel
theorem dX7_leads_43 : decode cX7_leads 43 = .ok (.if_icmp .eq 11, 3) := by decide +kernel
theorem dX7_leads_46 : decode cX7_leads 46 = .ok (.iload_n 2, 1) := by decide +kernel
theorem dX7_leads_47 : decode cX7_leads 47 = .ok (.aload_n 0, 1) := by decide +kernel
theorem dX7_leads_48 : decode cX7_leads 48 = .ok (.getfield 304, 3) := by decide +kernel
theorem dX7_leads_51 : decode cX7_leads 51 = .ok (.if_icmp .ge 8, 3) := by decide +kernel
theorem dX7_leads_54 : decode cX7_leads 54 = .ok (.aload_n 0, 1) := by decide +kernel
theorem dX7_leads_55 : decode cX7_leads 55 = .ok (.iload_n 2, 1) := by decide +kernel
theorem dX7_leads_56 : decode cX7_leads 56 = .ok (.putfield 304, 3) := by decide +kernel
theorem dX7_leads_59 : decode cX7_leads 59 = .ok (.iload_n 2, 1) := by decide +kernel
theorem dX7_leads_60 : decode cX7_leads 60 = .ok (.aload_n 0, 1) := by decide +kernel
theorem dX7_leads_61 : decode cX7_leads 61 = .ok (.getfield 307, 3) := by decide +kernel
theorem dX7_leads_64 : decode cX7_leads 64 = .ok (.if_icmp .le 8, 3) := by decide +kernel
theorem dX7_leads_67 : decode cX7_leads 67 = .ok (.aload_n 0, 1) := by decide +kernel
theorem dX7_leads_68 : decode cX7_leads 68 = .ok (.iload_n 2, 1) := by decide +kernel
theorem dX7_leads_69 : decode cX7_leads 69 = .ok (.putfield 307, 3) := by decide +kernel
theorem dX7_leads_72 : decode cX7_leads 72 = .ok (.return_, 1) := by decide +kernel
theorem dX7_counters_0 : decode cX7_counters 0 = .ok (.iload_n 0, 1) := by decide +kernel
theorem dX7_counters_1 : decode cX7_counters 1 = .ok (.iconst 4, 1) := by decide +kernel
theorem dX7_counters_2 : decode cX7_counters 2 = .ok (.iload_n 1, 1) := by decide +kernel
theorem dX7_counters_3 : decode cX7_counters 3 = .ok (.imul, 1) := by decide +kernel
theorem dX7_counters_4 : decode cX7_counters 4 = .ok (.ishr, 1) := by decide +kernel
theorem dX7_counters_5 : decode cX7_counters 5 = .ok (.bipush 15, 2) := by decide +kernel
theorem dX7_counters_7 : decode cX7_counters 7 = .ok (.iand, 1) := by decide +kernel
theorem dX7_counters_8 : decode cX7_counters 8 = .ok (.ireturn, 1) := by decide +kernel
theorem dX7_laysPosition_0 : decode cX7_laysPosition 0 = .ok (.aload_n 0, 1) := by decide +kernel
theorem dX7_laysPosition_1 : decode cX7_laysPosition 1 = .ok (.dup, 1) := by decide +kernel
theorem dX7_laysPosition_2 : decode cX7_laysPosition 2 = .ok (.getfield 95, 3) := by decide +kernel
theorem dX7_laysPosition_5 : decode cX7_laysPosition 5 = .ok (.iconst 1, 1) := by decide +kernel
theorem dX7_laysPosition_6 : decode cX7_laysPosition 6 = .ok (.iadd, 1) := by decide +kernel
theorem dX7_laysPosition_7 : decode cX7_laysPosition 7 = .ok (.putfield 95, 3) := by decide +kernel
theorem dX7_laysPosition_10 : decode cX7_laysPosition 10 = .ok (.aload_n 0, 1) := by decide +kernel
theorem dX7_laysPosition_11 : decode cX7_laysPosition 11 = .ok (.iconst 0, 1) := by decide +kernel
theorem dX7_laysPosition_12 : decode cX7_laysPosition 12 = .ok (.putfield 292, 3) := by decide +kernel
theorem dX7_laysPosition_15 : decode cX7_laysPosition 15 = .ok (.aload_n 0, 1) := by decide +kernel
theorem dX7_laysPosition_16 : decode cX7_laysPosition 16 = .ok (.iconst (-1), 1) := by decide +kernel
theorem dX7_laysPosition_17 : decode cX7_laysPosition 17 = .ok (.putfield 304, 3) := by decide +kernel
theorem dX7_laysPosition_20 : decode cX7_laysPosition 20 = .ok (.aload_n 0, 1) := by decide +kernel
theorem dX7_laysPosition_21 : decode cX7_laysPosition 21 = .ok (.iconst (-1), 1) := by decide +kernel
theorem dX7_laysPosition_22 : decode cX7_laysPosition 22 = .ok (.putfield 307, 3) := by decide +kernel
theorem dX7_laysPosition_25 : decode cX7_laysPosition 25 = .ok (.iconst 0, 1) := by decide +kernel
theorem dX7_laysPosition_26 : decode cX7_laysPosition 26 = .ok (.istore_n 2, 1) := by decide +kernel
theorem dX7_laysPosition_27 : decode cX7_laysPosition 27 = .ok (.iload_n 2, 1) := by decide +kernel
theorem dX7_laysPosition_28 : decode cX7_laysPosition 28 = .ok (.aload_n 0, 1) := by decide +kernel
theorem dX7_laysPosition_29 : decode cX7_laysPosition 29 = .ok (.getfield 7, 3) := by decide +kernel
theorem dX7_laysPosition_32 : decode cX7_laysPosition 32 = .ok (.iconst 0, 1) := by decide +kernel
theorem dX7_laysPosition_33 : decode cX7_laysPosition 33 = .ok (.iaload, 1) := by decide +kernel
theorem dX7_laysPosition_34 : decode cX7_laysPosition 34 = .ok (.if_icmp .ge 73, 3) := by decide +kernel
theorem dX7_laysPosition_37 : decode cX7_laysPosition 37 = .ok (.iload_n 1, 1) := by decide +kernel
theorem dX7_laysPosition_38 : decode cX7_laysPosition 38 = .ok (.iload_n 2, 1) := by decide +kernel
theorem dX7_laysPosition_39 : decode cX7_laysPosition 39 = .ok (.invokestatic 310, 3) := by decide +kernel
theorem dX7_laysPosition_42 : decode cX7_laysPosition 42 = .ok (.istore_n 3, 1) := by decide +kernel
theorem dX7_laysPosition_43 : decode cX7_laysPosition 43 = .ok (.aload_n 0, 1) := by decide +kernel
theorem dX7_laysPosition_44 : decode cX7_laysPosition 44 = .ok (.getfield 57, 3) := by decide +kernel
theorem dX7_laysPosition_47 : decode cX7_laysPosition 47 = .ok (.bipush 16, 2) := by decide +kernel
theorem dX7_laysPosition_49 : decode cX7_laysPosition 49 = .ok (.aload_n 0, 1) := by decide +kernel
theorem dX7_laysPosition_50 : decode cX7_laysPosition 50 = .ok (.getfield 7, 3) := by decide +kernel
theorem dX7_laysPosition_53 : decode cX7_laysPosition 53 = .ok (.iconst 1, 1) := by decide +kernel
theorem dX7_laysPosition_54 : decode cX7_laysPosition 54 = .ok (.iload_n 2, 1) := by decide +kernel
theorem dX7_laysPosition_55 : decode cX7_laysPosition 55 = .ok (.iadd, 1) := by decide +kernel
theorem dX7_laysPosition_56 : decode cX7_laysPosition 56 = .ok (.iaload, 1) := by decide +kernel
theorem dX7_laysPosition_57 : decode cX7_laysPosition 57 = .ok (.imul, 1) := by decide +kernel
theorem dX7_laysPosition_58 : decode cX7_laysPosition 58 = .ok (.iload_n 3, 1) := by decide +kernel
theorem dX7_laysPosition_59 : decode cX7_laysPosition 59 = .ok (.iadd, 1) := by decide +kernel
theorem dX7_laysPosition_60 : decode cX7_laysPosition 60 = .ok (.iaload, 1) := by decide +kernel
theorem dX7_laysPosition_61 : decode cX7_laysPosition 61 = .ok (.istore 4, 2) := by decide +kernel
theorem dX7_laysPosition_63 : decode cX7_laysPosition 63 = .ok (.iconst 1, 1) := by decide +kernel
theorem dX7_laysPosition_64 : decode cX7_laysPosition 64 = .ok (.istore 5, 2) := by decide +kernel
theorem dX7_laysPosition_66 : decode cX7_laysPosition 66 = .ok (.iload 5, 2) := by decide +kernel
theorem dX7_laysPosition_68 : decode cX7_laysPosition 68 = .ok (.iload_n 3, 1) := by decide +kernel
theorem dX7_laysPosition_69 : decode cX7_laysPosition 69 = .ok (.if_icmp .gt 32, 3) := by decide +kernel
theorem dX7_laysPosition_72 : decode cX7_laysPosition 72 = .ok (.iload 4, 2) := by decide +kernel
theorem dX7_laysPosition_74 : decode cX7_laysPosition 74 = .ok (.iload 5, 2) := by decide +kernel
theorem dX7_laysPosition_76 : decode cX7_laysPosition 76 = .ok (.invokestatic 313, 3) := by decide +kernel
theorem dX7_laysPosition_79 : decode cX7_laysPosition 79 = .ok (.ifCond .eq 16, 3) := by decide +kernel
theorem dX7_laysPosition_82 : decode cX7_laysPosition 82 = .ok (.aload_n 0, 1) := by decide +kernel
theorem dX7_laysPosition_83 : decode cX7_laysPosition 83 = .ok (.iload_n 1, 1) := by decide +kernel
theorem dX7_laysPosition_84 : decode cX7_laysPosition 84 = .ok (.iload 5, 2) := by decide +kernel
theorem dX7_laysPosition_86 : decode cX7_laysPosition 86 = .ok (.iload_n 2, 1) := by decide +kernel
theorem dX7_laysPosition_87 : decode cX7_laysPosition 87 = .ok (.invokestatic 316, 3) := by decide +kernel
theorem dX7_laysPosition_90 : decode cX7_laysPosition 90 = .ok (.imul, 1) := by decide +kernel
theorem dX7_laysPosition_91 : decode cX7_laysPosition 91 = .ok (.isub, 1) := by decide +kernel
theorem dX7_laysPosition_92 : decode cX7_laysPosition 92 = .ok (.invokevirtual 319, 3) := by decide +kernel
theorem dX7_laysPosition_95 : decode cX7_laysPosition 95 = .ok (.iinc 5 1, 3) := by decide +kernel
theorem dX7_laysPosition_98 : decode cX7_laysPosition 98 = .ok (.goto (-32), 3) := by decide +kernel
theorem dX7_laysPosition_101 : decode cX7_laysPosition 101 = .ok (.iinc 2 1, 3) := by decide +kernel
theorem dX7_laysPosition_104 : decode cX7_laysPosition 104 = .ok (.goto (-77), 3) := by decide +kernel
theorem dX7_laysPosition_107 : decode cX7_laysPosition 107 = .ok (.iconst 0, 1) := by decide +kernel
theorem dX7_laysPosition_108 : decode cX7_laysPosition 108 = .ok (.istore_n 2, 1) := by decide +kernel
theorem dX7_laysPosition_109 : decode cX7_laysPosition 109 = .ok (.iload_n 2, 1) := by decide +kernel
theorem dX7_laysPosition_110 : decode cX7_laysPosition 110 = .ok (.aload_n 0, 1) := by decide +kernel
theorem dX7_laysPosition_111 : decode cX7_laysPosition 111 = .ok (.getfield 7, 3) := by decide +kernel
theorem dX7_laysPosition_114 : decode cX7_laysPosition 114 = .ok (.iconst 0, 1) := by decide +kernel
theorem dX7_laysPosition_115 : decode cX7_laysPosition 115 = .ok (.iaload, 1) := by decide +kernel
theorem dX7_laysPosition_116 : decode cX7_laysPosition 116 = .ok (.if_icmp .ge 36, 3) := by decide +kernel
theorem dX7_laysPosition_119 : decode cX7_laysPosition 119 = .ok (.iload_n 2, 1) := by decide +kernel
theorem dX7_laysPosition_120 : decode cX7_laysPosition 120 = .ok (.iconst 1, 1) := by decide +kernel
theorem dX7_laysPosition_121 : decode cX7_laysPosition 121 = .ok (.iadd, 1) := by decide +kernel
theorem dX7_laysPosition_122 : decode cX7_laysPosition 122 = .ok (.istore_n 3, 1) := by decide +kernel
theorem dX7_laysPosition_123 : decode cX7_laysPosition 123 = .ok (.iload_n 3, 1) := by decide +kernel
theorem dX7_laysPosition_124 : decode cX7_laysPosition 124 = .ok (.aload_n 0, 1) := by decide +kernel
theorem dX7_laysPosition_125 : decode cX7_laysPosition 125 = .ok (.getfield 7, 3) := by decide +kernel
theorem dX7_laysPosition_128 : decode cX7_laysPosition 128 = .ok (.iconst 0, 1) := by decide +kernel
theorem dX7_laysPosition_129 : decode cX7_laysPosition 129 = .ok (.iaload, 1) := by decide +kernel
theorem dX7_laysPosition_130 : decode cX7_laysPosition 130 = .ok (.if_icmp .ge 16, 3) := by decide +kernel
theorem dX7_laysPosition_133 : decode cX7_laysPosition 133 = .ok (.aload_n 0, 1) := by decide +kernel
theorem dX7_laysPosition_134 : decode cX7_laysPosition 134 = .ok (.iload_n 1, 1) := by decide +kernel
theorem dX7_laysPosition_135 : decode cX7_laysPosition 135 = .ok (.iload_n 2, 1) := by decide +kernel
theorem dX7_laysPosition_136 : decode cX7_laysPosition 136 = .ok (.iload_n 3, 1) := by decide +kernel
theorem dX7_laysPosition_137 : decode cX7_laysPosition 137 = .ok (.invokevirtual 322, 3) := by decide +kernel
theorem dX7_laysPosition_140 : decode cX7_laysPosition 140 = .ok (.iinc 3 1, 3) := by decide +kernel
theorem dX7_laysPosition_143 : decode cX7_laysPosition 143 = .ok (.goto (-20), 3) := by decide +kernel
theorem dX7_laysPosition_146 : decode cX7_laysPosition 146 = .ok (.iinc 2 1, 3) := by decide +kernel
theorem dX7_laysPosition_149 : decode cX7_laysPosition 149 = .ok (.goto (-40), 3) := by decide +kernel
theorem dX7_laysPosition_152 : decode cX7_laysPosition 152 = .ok (.iload_n 1, 1) := by decide +kernel
theorem dX7_laysPosition_153 : decode cX7_laysPosition 153 = .ok (.aload_n 0, 1) := by decide +kernel
theorem dX7_laysPosition_154 : decode cX7_laysPosition 154 = .ok (.invokevirtual 286, 3) := by decide +kernel
theorem dX7_laysPosition_157 : decode cX7_laysPosition 157 = .ok (.if_icmp .lt 20, 3) := by decide +kernel
theorem dX7_laysPosition_160 : decode cX7_laysPosition 160 = .ok (.aload_n 0, 1) := by decide +kernel
theorem dX7_laysPosition_161 : decode cX7_laysPosition 161 = .ok (.getfield 292, 3) := by decide +kernel
theorem dX7_laysPosition_164 : decode cX7_laysPosition 164 = .ok (.ifCond .le 13, 3) := by decide +kernel
theorem dX7_laysPosition_167 : decode cX7_laysPosition 167 = .ok (.aload_n 0, 1) := by decide +kernel
theorem dX7_laysPosition_168 : decode cX7_laysPosition 168 = .ok (.iload_n 1, 1) := by decide +kernel
theorem dX7_laysPosition_169 : decode cX7_laysPosition 169 = .ok (.aload_n 0, 1) := by decide +kernel
theorem dX7_laysPosition_170 : decode cX7_laysPosition 170 = .ok (.invokevirtual 286, 3) := by decide +kernel
theorem dX7_laysPosition_173 : decode cX7_laysPosition 173 = .ok (.isub, 1) := by decide +kernel
theorem dX7_laysPosition_174 : decode cX7_laysPosition 174 = .ok (.invokevirtual 319, 3) := by decide +kernel
theorem dX7_laysPosition_177 : decode cX7_laysPosition 177 = .ok (.aload_n 0, 1) := by decide +kernel
theorem dX7_laysPosition_178 : decode cX7_laysPosition 178 = .ok (.getfield 292, 3) := by decide +kernel
theorem dX7_laysPosition_181 : decode cX7_laysPosition 181 = .ok (.ifCond .ne 22, 3) := by decide +kernel
theorem dX7_laysPosition_184 : decode cX7_laysPosition 184 = .ok (.aload_n 0, 1) := by decide +kernel
theorem dX7_laysPosition_185 : decode cX7_laysPosition 185 = .ok (.getfield 7, 3) := by decide +kernel
theorem dX7_laysPosition_188 : decode cX7_laysPosition 188 = .ok (.bipush 10, 2) := by decide +kernel
theorem dX7_laysPosition_190 : decode cX7_laysPosition 190 = .ok (.iaload, 1) := by decide +kernel
theorem dX7_laysPosition_191 : decode cX7_laysPosition 191 = .ok (.iconst 1, 1) := by decide +kernel
theorem dX7_laysPosition_192 : decode cX7_laysPosition 192 = .ok (.if_icmp .ne 7, 3) := by decide +kernel
theorem dX7_laysPosition_195 : decode cX7_laysPosition 195 = .ok (.iconst 1, 1) := by decide +kernel
theorem dX7_laysPosition_196 : decode cX7_laysPosition 196 = .ok (.goto 20, 3) := by decide +kernel
theorem dX7_laysPosition_199 : decode cX7_laysPosition 199 = .ok (.iconst 0, 1) := by decide +kernel
theorem dX7_laysPosition_200 : decode cX7_laysPosition 200 = .ok (.goto 16, 3) := by decide +kernel
theorem dX7_laysPosition_203 : decode cX7_laysPosition 203 = .ok (.aload_n 0, 1) := by decide +kernel
theorem dX7_laysPosition_204 : decode cX7_laysPosition 204 = .ok (.getfield 304, 3) := by decide +kernel
theorem dX7_laysPosition_207 : decode cX7_laysPosition 207 = .ok (.iconst (-1), 1) := by decide +kernel
theorem dX7_laysPosition_208 : decode cX7_laysPosition 208 = .ok (.if_icmp .eq 7, 3) := by decide +kernel
theorem dX7_laysPosition_211 : decode cX7_laysPosition 211 = .ok (.iconst 1, 1) := by decide +kernel
theorem dX7_laysPosition_212 : decode cX7_laysPosition 212 = .ok (.goto 4, 3) := by decide +kernel
theorem dX7_laysPosition_215 : decode cX7_laysPosition 215 = .ok (.iconst 0, 1) := by decide +kernel
theorem dX7_laysPosition_216 : decode cX7_laysPosition 216 = .ok (.istore_n 2, 1) := by decide +kernel
theorem dX7_laysPosition_217 : decode cX7_laysPosition 217 = .ok (.aload_n 0, 1) := by decide +kernel
theorem dX7_laysPosition_218 : decode cX7_laysPosition 218 = .ok (.getfield 292, 3) := by decide +kernel
theorem dX7_laysPosition_221 : decode cX7_laysPosition 221 = .ok (.ifCond .ne 7, 3) := by decide +kernel
theorem dX7_laysPosition_224 : decode cX7_laysPosition 224 = .ok (.iconst 0, 1) := by decide +kernel
theorem dX7_laysPosition_225 : decode cX7_laysPosition 225 = .ok (.goto 20, 3) := by decide +kernel
theorem dX7_laysPosition_228 : decode cX7_laysPosition 228 = .ok (.iconst 1, 1) := by decide +kernel
theorem dX7_laysPosition_229 : decode cX7_laysPosition 229 = .ok (.iload_n 2, 1) := by decide +kernel
theorem dX7_laysPosition_230 : decode cX7_laysPosition 230 = .ok (.ifCond .eq 10, 3) := by decide +kernel
theorem dX7_laysPosition_233 : decode cX7_laysPosition 233 = .ok (.aload_n 0, 1) := by decide +kernel
theorem dX7_laysPosition_234 : decode cX7_laysPosition 234 = .ok (.getfield 304, 3) := by decide +kernel
theorem dX7_laysPosition_237 : decode cX7_laysPosition 237 = .ok (.goto 7, 3) := by decide +kernel
theorem dX7_laysPosition_240 : decode cX7_laysPosition 240 = .ok (.aload_n 0, 1) := by decide +kernel
theorem dX7_laysPosition_241 : decode cX7_laysPosition 241 = .ok (.getfield 307, 3) := by decide +kernel
theorem dX7_laysPosition_244 : decode cX7_laysPosition 244 = .ok (.iadd, 1) := by decide +kernel
theorem dX7_laysPosition_245 : decode cX7_laysPosition 245 = .ok (.istore_n 3, 1) := by decide +kernel
theorem dX7_laysPosition_246 : decode cX7_laysPosition 246 = .ok (.aload_n 0, 1) := by decide +kernel
theorem dX7_laysPosition_247 : decode cX7_laysPosition 247 = .ok (.getfield 67, 3) := by decide +kernel
theorem dX7_laysPosition_250 : decode cX7_laysPosition 250 = .ok (.iload_n 1, 1) := by decide +kernel
theorem dX7_laysPosition_251 : decode cX7_laysPosition 251 = .ok (.aload_n 0, 1) := by decide +kernel
theorem dX7_laysPosition_252 : decode cX7_laysPosition 252 = .ok (.invokevirtual 105, 3) := by decide +kernel
theorem dX7_laysPosition_255 : decode cX7_laysPosition 255 = .ok (.iload_n 2, 1) := by decide +kernel
theorem dX7_laysPosition_256 : decode cX7_laysPosition 256 = .ok (.ifCond .eq 9, 3) := by decide +kernel
theorem dX7_laysPosition_259 : decode cX7_laysPosition 259 = .ok (.sipush 128, 3) := by decide +kernel
theorem dX7_laysPosition_262 : decode cX7_laysPosition 262 = .ok (.goto 4, 3) := by decide +kernel
theorem dX7_laysPosition_265 : decode cX7_laysPosition 265 = .ok (.iconst 0, 1) := by decide +kernel
theorem dX7_laysPosition_266 : decode cX7_laysPosition 266 = .ok (.iadd, 1) := by decide +kernel
theorem dX7_laysPosition_267 : decode cX7_laysPosition 267 = .ok (.sipush 256, 3) := by decide +kernel
theorem dX7_laysPosition_270 : decode cX7_laysPosition 270 = .ok (.iload_n 3, 1) := by decide +kernel
theorem dX7_laysPosition_271 : decode cX7_laysPosition 271 = .ok (.imul, 1) := by decide +kernel
theorem dX7_laysPosition_272 : decode cX7_laysPosition 272 = .ok (.iadd, 1) := by decide +kernel
theorem dX7_laysPosition_273 : decode cX7_laysPosition 273 = .ok (.iastore, 1) := by decide +kernel
theorem dX7_laysPosition_274 : decode cX7_laysPosition 274 = .ok (.return_, 1) := by decide +kernel
theorem dX7_leadsShared_0 : decode cX7_leadsShared 0 = .ok (.iload_n 1, 1) := by decide +kernel
theorem dX7_leadsShared_1 : decode cX7_leadsShared 1 = .ok (.iload_n 2, 1) := by decide +kernel
theorem dX7_leadsShared_2 : decode cX7_leadsShared 2 = .ok (.invokestatic 310, 3) := by decide +kernel
theorem dX7_leadsShared_5 : decode cX7_leadsShared 5 = .ok (.iload_n 1, 1) := by decide +kernel
theorem dX7_leadsShared_6 : decode cX7_leadsShared 6 = .ok (.iload_n 3, 1) := by decide +kernel
theorem dX7_leadsShared_7 : decode cX7_leadsShared 7 = .ok (.invokestatic 310, 3) := by decide +kernel
theorem dX7_leadsShared_10 : decode cX7_leadsShared 10 = .ok (.if_icmp .ge 11, 3) := by decide +kernel
theorem dX7_leadsShared_13 : decode cX7_leadsShared 13 = .ok (.iload_n 1, 1) := by decide +kernel
theorem dX7_leadsShared_14 : decode cX7_leadsShared 14 = .ok (.iload_n 2, 1) := by decide +kernel
theorem dX7_leadsShared_15 : decode cX7_leadsShared 15 = .ok (.invokestatic 310, 3) := by decide +kernel
theorem dX7_leadsShared_18 : decode cX7_leadsShared 18 = .ok (.goto 8, 3) := by decide +kernel
theorem dX7_leadsShared_21 : decode cX7_leadsShared 21 = .ok (.iload_n 1, 1) := by decide +kernel
theorem dX7_leadsShared_22 : decode cX7_leadsShared 22 = .ok (.iload_n 3, 1) := by decide +kernel
theorem dX7_leadsShared_23 : decode cX7_leadsShared 23 = .ok (.invokestatic 310, 3) := by decide +kernel
theorem dX7_leadsShared_26 : decode cX7_leadsShared 26 = .ok (.istore 4, 2) := by decide +kernel
theorem dX7_leadsShared_28 : decode cX7_leadsShared 28 = .ok (.iconst 1, 1) := by decide +kernel
theorem dX7_leadsShared_29 : decode cX7_leadsShared 29 = .ok (.istore 5, 2) := by decide +kernel
theorem dX7_leadsShared_31 : decode cX7_leadsShared 31 = .ok (.iload 5, 2) := by decide +kernel
theorem dX7_leadsShared_33 : decode cX7_leadsShared 33 = .ok (.iload 4, 2) := by decide +kernel
theorem dX7_leadsShared_35 : decode cX7_leadsShared 35 = .ok (.if_icmp .gt 42, 3) := by decide +kernel
theorem dX7_leadsShared_38 : decode cX7_leadsShared 38 = .ok (.aload_n 0, 1) := by decide +kernel
theorem dX7_leadsShared_39 : decode cX7_leadsShared 39 = .ok (.getfield 225, 3) := by decide +kernel
theorem dX7_leadsShared_42 : decode cX7_leadsShared 42 = .ok (.iload 5, 2) := by decide +kernel
theorem dX7_leadsShared_44 : decode cX7_leadsShared 44 = .ok (.invokestatic 313, 3) := by decide +kernel
theorem dX7_leadsShared_47 : decode cX7_leadsShared 47 = .ok (.ifCond .eq 24, 3) := by decide +kernel
theorem dX7_leadsShared_50 : decode cX7_leadsShared 50 = .ok (.aload_n 0, 1) := by decide +kernel
theorem dX7_leadsShared_51 : decode cX7_leadsShared 51 = .ok (.iload_n 1, 1) := by decide +kernel
theorem dX7_leadsShared_52 : decode cX7_leadsShared 52 = .ok (.iload 5, 2) := by decide +kernel
theorem dX7_leadsShared_54 : decode cX7_leadsShared 54 = .ok (.iload_n 2, 1) := by decide +kernel
theorem dX7_leadsShared_55 : decode cX7_leadsShared 55 = .ok (.invokestatic 316, 3) := by decide +kernel
theorem dX7_leadsShared_58 : decode cX7_leadsShared 58 = .ok (.imul, 1) := by decide +kernel
theorem dX7_leadsShared_59 : decode cX7_leadsShared 59 = .ok (.isub, 1) := by decide +kernel
theorem dX7_leadsShared_60 : decode cX7_leadsShared 60 = .ok (.iload 5, 2) := by decide +kernel
theorem dX7_leadsShared_62 : decode cX7_leadsShared 62 = .ok (.iload_n 3, 1) := by decide +kernel
theorem dX7_leadsShared_63 : decode cX7_leadsShared 63 = .ok (.invokestatic 316, 3) := by decide +kernel
theorem dX7_leadsShared_66 : decode cX7_leadsShared 66 = .ok (.imul, 1) := by decide +kernel
theorem dX7_leadsShared_67 : decode cX7_leadsShared 67 = .ok (.isub, 1) := by decide +kernel
theorem dX7_leadsShared_68 : decode cX7_leadsShared 68 = .ok (.invokevirtual 319, 3) := by decide +kernel
theorem dX7_leadsShared_71 : decode cX7_leadsShared 71 = .ok (.iinc 5 1, 3) := by decide +kernel
theorem dX7_leadsShared_74 : decode cX7_leadsShared 74 = .ok (.goto (-43), 3) := by decide +kernel
theorem dX7_leadsShared_77 : decode cX7_leadsShared 77 = .ok (.return_, 1) := by decide +kernel
theorem dX7_here_0 : decode cX7_here 0 = .ok (.aload_n 0, 1) := by decide +kernel
theorem dX7_here_1 : decode cX7_here 1 = .ok (.invokevirtual 286, 3) := by decide +kernel
theorem dX7_here_4 : decode cX7_here 4 = .ok (.aload_n 0, 1) := by decide +kernel
theorem dX7_here_5 : decode cX7_here 5 = .ok (.getfield 7, 3) := by decide +kernel
theorem dX7_here_8 : decode cX7_here 8 = .ok (.bipush 9, 2) := by decide +kernel
theorem dX7_here_10 : decode cX7_here 10 = .ok (.iaload, 1) := by decide +kernel
theorem dX7_here_11 : decode cX7_here 11 = .ok (.imul, 1) := by decide +kernel
theorem dX7_here_12 : decode cX7_here 12 = .ok (.istore_n 1, 1) := by decide +kernel
theorem dX7_here_13 : decode cX7_here 13 = .ok (.iconst 0, 1) := by decide +kernel
theorem dX7_here_14 : decode cX7_here 14 = .ok (.istore_n 2, 1) := by decide +kernel
theorem dX7_here_15 : decode cX7_here 15 = .ok (.iload_n 2, 1) := by decide +kernel
theorem dX7_here_16 : decode cX7_here 16 = .ok (.aload_n 0, 1) := by decide +kernel
theorem dX7_here_17 : decode cX7_here 17 = .ok (.getfield 7, 3) := by decide +kernel
theorem dX7_here_20 : decode cX7_here 20 = .ok (.iconst 0, 1) := by decide +kernel
theorem dX7_here_21 : decode cX7_here 21 = .ok (.iaload, 1) := by decide +kernel
theorem dX7_here_22 : decode cX7_here 22 = .ok (.if_icmp .ge 25, 3) := by decide +kernel
theorem dX7_here_25 : decode cX7_here 25 = .ok (.iload_n 1, 1) := by decide +kernel
theorem dX7_here_26 : decode cX7_here 26 = .ok (.aload_n 0, 1) := by decide +kernel
theorem dX7_here_27 : decode cX7_here 27 = .ok (.getfield 7, 3) := by decide +kernel
theorem dX7_here_30 : decode cX7_here 30 = .ok (.iconst 5, 1) := by decide +kernel
theorem dX7_here_31 : decode cX7_here 31 = .ok (.iload_n 2, 1) := by decide +kernel
theorem dX7_here_32 : decode cX7_here 32 = .ok (.iadd, 1) := by decide +kernel
theorem dX7_here_33 : decode cX7_here 33 = .ok (.iaload, 1) := by decide +kernel
theorem dX7_here_34 : decode cX7_here 34 = .ok (.iload_n 2, 1) := by decide +kernel
theorem dX7_here_35 : decode cX7_here 35 = .ok (.invokestatic 316, 3) := by decide +kernel
theorem dX7_here_38 : decode cX7_here 38 = .ok (.imul, 1) := by decide +kernel
theorem dX7_here_39 : decode cX7_here 39 = .ok (.iadd, 1) := by decide +kernel
theorem dX7_here_40 : decode cX7_here 40 = .ok (.istore_n 1, 1) := by decide +kernel
theorem dX7_here_41 : decode cX7_here 41 = .ok (.iinc 2 1, 3) := by decide +kernel
theorem dX7_here_44 : decode cX7_here 44 = .ok (.goto (-29), 3) := by decide +kernel
theorem dX7_here_47 : decode cX7_here 47 = .ok (.iload_n 1, 1) := by decide +kernel
theorem dX7_here_48 : decode cX7_here 48 = .ok (.ireturn, 1) := by decide +kernel
theorem dX7_isIt_0 : decode cX7_isIt 0 = .ok (.aload_n 0, 1) := by decide +kernel
theorem dX7_isIt_1 : decode cX7_isIt 1 = .ok (.getfield 326, 3) := by decide +kernel
theorem dX7_isIt_4 : decode cX7_isIt 4 = .ok (.iload_n 1, 1) := by decide +kernel
theorem dX7_isIt_5 : decode cX7_isIt 5 = .ok (.if_icmp .ne 7, 3) := by decide +kernel
theorem dX7_isIt_8 : decode cX7_isIt 8 = .ok (.iconst 1, 1) := by decide +kernel
theorem dX7_isIt_9 : decode cX7_isIt 9 = .ok (.goto 4, 3) := by decide +kernel
theorem dX7_isIt_12 : decode cX7_isIt 12 = .ok (.iconst 0, 1) := by decide +kernel
theorem dX7_isIt_13 : decode cX7_isIt 13 = .ok (.istore 6, 2) := by decide +kernel
theorem dX7_isIt_15 : decode cX7_isIt 15 = .ok (.aload_n 0, 1) := by decide +kernel
theorem dX7_isIt_16 : decode cX7_isIt 16 = .ok (.dup, 1) := by decide +kernel
theorem dX7_isIt_17 : decode cX7_isIt 17 = .ok (.getfield 326, 3) := by decide +kernel
theorem dX7_isIt_20 : decode cX7_isIt 20 = .ok (.iconst 1, 1) := by decide +kernel
theorem dX7_isIt_21 : decode cX7_isIt 21 = .ok (.iadd, 1) := by decide +kernel
theorem dX7_isIt_22 : decode cX7_isIt 22 = .ok (.putfield 326, 3) := by decide +kernel
theorem dX7_isIt_25 : decode cX7_isIt 25 = .ok (.iload 6, 2) := by decide +kernel
theorem dX7_isIt_27 : decode cX7_isIt 27 = .ok (.ifCond .ne 5, 3) := by decide +kernel
theorem dX7_isIt_30 : decode cX7_isIt 30 = .ok (.iconst 0, 1) := by decide +kernel
theorem dX7_isIt_31 : decode cX7_isIt 31 = .ok (.ireturn, 1) := by decide +kernel
theorem dX7_isIt_32 : decode cX7_isIt 32 = .ok (.aload_n 0, 1) := by decide +kernel
theorem dX7_isIt_33 : decode cX7_isIt 33 = .ok (.iload_n 2, 1) := by decide +kernel
theorem dX7_isIt_34 : decode cX7_isIt 34 = .ok (.putfield 329, 3) := by decide +kernel
theorem dX7_isIt_37 : decode cX7_isIt 37 = .ok (.aload_n 0, 1) := by decide +kernel
theorem dX7_isIt_38 : decode cX7_isIt 38 = .ok (.iload_n 3, 1) := by decide +kernel
theorem dX7_isIt_39 : decode cX7_isIt 39 = .ok (.putfield 332, 3) := by decide +kernel
theorem dX7_isIt_42 : decode cX7_isIt 42 = .ok (.aload_n 0, 1) := by decide +kernel
theorem dX7_isIt_43 : decode cX7_isIt 43 = .ok (.iload 4, 2) := by decide +kernel
theorem dX7_isIt_45 : decode cX7_isIt 45 = .ok (.putfield 335, 3) := by decide +kernel
theorem dX7_isIt_48 : decode cX7_isIt 48 = .ok (.aload_n 0, 1) := by decide +kernel
theorem dX7_isIt_49 : decode cX7_isIt 49 = .ok (.iload 5, 2) := by decide +kernel
theorem dX7_isIt_51 : decode cX7_isIt 51 = .ok (.putfield 338, 3) := by decide +kernel
theorem dX7_isIt_54 : decode cX7_isIt 54 = .ok (.aload_n 0, 1) := by decide +kernel
theorem dX7_isIt_55 : decode cX7_isIt 55 = .ok (.aload_n 0, 1) := by decide +kernel
theorem dX7_isIt_56 : decode cX7_isIt 56 = .ok (.invokevirtual 341, 3) := by decide +kernel
theorem dX7_isIt_59 : decode cX7_isIt 59 = .ok (.iload_n 2, 1) := by decide +kernel
theorem dX7_isIt_60 : decode cX7_isIt 60 = .ok (.iconst 2, 1) := by decide +kernel
theorem dX7_isIt_61 : decode cX7_isIt 61 = .ok (.if_icmp .ne 10, 3) := by decide +kernel
theorem dX7_isIt_64 : decode cX7_isIt 64 = .ok (.aload_n 0, 1) := by decide +kernel
theorem dX7_isIt_65 : decode cX7_isIt 65 = .ok (.invokevirtual 286, 3) := by decide +kernel
theorem dX7_isIt_68 : decode cX7_isIt 68 = .ok (.goto 28, 3) := by decide +kernel
theorem dX7_isIt_71 : decode cX7_isIt 71 = .ok (.iload 5, 2) := by decide +kernel
theorem dX7_isIt_73 : decode cX7_isIt 73 = .ok (.iload_n 3, 1) := by decide +kernel
theorem dX7_isIt_74 : decode cX7_isIt 74 = .ok (.invokestatic 316, 3) := by decide +kernel
theorem dX7_isIt_77 : decode cX7_isIt 77 = .ok (.imul, 1) := by decide +kernel
theorem dX7_isIt_78 : decode cX7_isIt 78 = .ok (.iload_n 2, 1) := by decide +kernel
theorem dX7_isIt_79 : decode cX7_isIt 79 = .ok (.iconst 1, 1) := by decide +kernel
theorem dX7_isIt_80 : decode cX7_isIt 80 = .ok (.if_icmp .ne 14, 3) := by decide +kernel
theorem dX7_isIt_83 : decode cX7_isIt 83 = .ok (.iload 5, 2) := by decide +kernel
theorem dX7_isIt_85 : decode cX7_isIt 85 = .ok (.iload 4, 2) := by decide +kernel
theorem dX7_isIt_87 : decode cX7_isIt 87 = .ok (.invokestatic 316, 3) := by decide +kernel
theorem dX7_isIt_90 : decode cX7_isIt 90 = .ok (.imul, 1) := by decide +kernel
theorem dX7_isIt_91 : decode cX7_isIt 91 = .ok (.goto 4, 3) := by decide +kernel
theorem dX7_isIt_94 : decode cX7_isIt 94 = .ok (.iconst 0, 1) := by decide +kernel
theorem dX7_isIt_95 : decode cX7_isIt 95 = .ok (.iadd, 1) := by decide +kernel
theorem dX7_isIt_96 : decode cX7_isIt 96 = .ok (.isub, 1) := by decide +kernel
theorem dX7_isIt_97 : decode cX7_isIt 97 = .ok (.putfield 344, 3) := by decide +kernel
theorem dX7_isIt_100 : decode cX7_isIt 100 = .ok (.iconst 1, 1) := by decide +kernel
theorem dX7_isIt_101 : decode cX7_isIt 101 = .ok (.ireturn, 1) := by decide +kernel
theorem dX7_finds_0 : decode cX7_finds 0 = .ok (.aload_n 0, 1) := by decide +kernel
theorem dX7_finds_1 : decode cX7_finds 1 = .ok (.iconst 0, 1) := by decide +kernel
theorem dX7_finds_2 : decode cX7_finds 2 = .ok (.putfield 326, 3) := by decide +kernel
theorem dX7_finds_5 : decode cX7_finds 5 = .ok (.iconst 0, 1) := by decide +kernel
theorem dX7_finds_6 : decode cX7_finds 6 = .ok (.istore_n 2, 1) := by decide +kernel
theorem dX7_finds_7 : decode cX7_finds 7 = .ok (.iload_n 2, 1) := by decide +kernel
theorem dX7_finds_8 : decode cX7_finds 8 = .ok (.aload_n 0, 1) := by decide +kernel
theorem dX7_finds_9 : decode cX7_finds 9 = .ok (.getfield 7, 3) := by decide +kernel
theorem dX7_finds_12 : decode cX7_finds 12 = .ok (.iconst 0, 1) := by decide +kernel
theorem dX7_finds_13 : decode cX7_finds 13 = .ok (.iaload, 1) := by decide +kernel
theorem dX7_finds_14 : decode cX7_finds 14 = .ok (.if_icmp .ge 66, 3) := by decide +kernel
theorem dX7_finds_17 : decode cX7_finds 17 = .ok (.aload_n 0, 1) := by decide +kernel
theorem dX7_finds_18 : decode cX7_finds 18 = .ok (.getfield 7, 3) := by decide +kernel
theorem dX7_finds_21 : decode cX7_finds 21 = .ok (.iconst 5, 1) := by decide +kernel
theorem dX7_finds_22 : decode cX7_finds 22 = .ok (.iload_n 2, 1) := by decide +kernel
theorem dX7_finds_23 : decode cX7_finds 23 = .ok (.iadd, 1) := by decide +kernel
theorem dX7_finds_24 : decode cX7_finds 24 = .ok (.iaload, 1) := by decide +kernel
theorem dX7_finds_25 : decode cX7_finds 25 = .ok (.istore_n 3, 1) := by decide +kernel
theorem dX7_finds_26 : decode cX7_finds 26 = .ok (.iconst 1, 1) := by decide +kernel
theorem dX7_finds_27 : decode cX7_finds 27 = .ok (.istore 4, 2) := by decide +kernel
theorem dX7_finds_29 : decode cX7_finds 29 = .ok (.iload 4, 2) := by decide +kernel
theorem dX7_finds_31 : decode cX7_finds 31 = .ok (.iload_n 3, 1) := by decide +kernel
theorem dX7_finds_32 : decode cX7_finds 32 = .ok (.if_icmp .gt 42, 3) := by decide +kernel
theorem dX7_finds_35 : decode cX7_finds 35 = .ok (.aload_n 0, 1) := by decide +kernel
theorem dX7_finds_36 : decode cX7_finds 36 = .ok (.aload_n 0, 1) := by decide +kernel
theorem dX7_finds_37 : decode cX7_finds 37 = .ok (.getfield 7, 3) := by decide +kernel
theorem dX7_finds_40 : decode cX7_finds 40 = .ok (.iconst 1, 1) := by decide +kernel
theorem dX7_finds_41 : decode cX7_finds 41 = .ok (.iload_n 2, 1) := by decide +kernel
theorem dX7_finds_42 : decode cX7_finds 42 = .ok (.iadd, 1) := by decide +kernel
theorem dX7_finds_43 : decode cX7_finds 43 = .ok (.iaload, 1) := by decide +kernel
theorem dX7_finds_44 : decode cX7_finds 44 = .ok (.iload_n 3, 1) := by decide +kernel
theorem dX7_finds_45 : decode cX7_finds 45 = .ok (.iload 4, 2) := by decide +kernel
theorem dX7_finds_47 : decode cX7_finds 47 = .ok (.invokevirtual 92, 3) := by decide +kernel
theorem dX7_finds_50 : decode cX7_finds 50 = .ok (.ifCond .eq 18, 3) := by decide +kernel
theorem dX7_finds_53 : decode cX7_finds 53 = .ok (.aload_n 0, 1) := by decide +kernel
theorem dX7_finds_54 : decode cX7_finds 54 = .ok (.iload_n 1, 1) := by decide +kernel
theorem dX7_finds_55 : decode cX7_finds 55 = .ok (.iconst 0, 1) := by decide +kernel
theorem dX7_finds_56 : decode cX7_finds 56 = .ok (.iload_n 2, 1) := by decide +kernel
theorem dX7_finds_57 : decode cX7_finds 57 = .ok (.iconst (-1), 1) := by decide +kernel
theorem dX7_finds_58 : decode cX7_finds 58 = .ok (.iload 4, 2) := by decide +kernel
theorem dX7_finds_60 : decode cX7_finds 60 = .ok (.invokevirtual 347, 3) := by decide +kernel
theorem dX7_finds_63 : decode cX7_finds 63 = .ok (.ifCond .eq 5, 3) := by decide +kernel
theorem dX7_finds_66 : decode cX7_finds 66 = .ok (.iconst 1, 1) := by decide +kernel
theorem dX7_finds_67 : decode cX7_finds 67 = .ok (.ireturn, 1) := by decide +kernel
theorem dX7_finds_68 : decode cX7_finds 68 = .ok (.iinc 4 1, 3) := by decide +kernel
theorem dX7_finds_71 : decode cX7_finds 71 = .ok (.goto (-42), 3) := by decide +kernel
theorem dX7_finds_74 : decode cX7_finds 74 = .ok (.iinc 2 1, 3) := by decide +kernel
theorem dX7_finds_77 : decode cX7_finds 77 = .ok (.goto (-70), 3) := by decide +kernel
theorem dX7_finds_80 : decode cX7_finds 80 = .ok (.iconst 0, 1) := by decide +kernel
theorem dX7_finds_81 : decode cX7_finds 81 = .ok (.istore_n 2, 1) := by decide +kernel
theorem dX7_finds_82 : decode cX7_finds 82 = .ok (.iload_n 2, 1) := by decide +kernel
theorem dX7_finds_83 : decode cX7_finds 83 = .ok (.aload_n 0, 1) := by decide +kernel
theorem dX7_finds_84 : decode cX7_finds 84 = .ok (.getfield 7, 3) := by decide +kernel
theorem dX7_finds_87 : decode cX7_finds 87 = .ok (.iconst 0, 1) := by decide +kernel
theorem dX7_finds_88 : decode cX7_finds 88 = .ok (.iaload, 1) := by decide +kernel
theorem dX7_finds_89 : decode cX7_finds 89 = .ok (.if_icmp .ge 41, 3) := by decide +kernel
theorem dX7_finds_92 : decode cX7_finds 92 = .ok (.iload_n 2, 1) := by decide +kernel
theorem dX7_finds_93 : decode cX7_finds 93 = .ok (.iconst 1, 1) := by decide +kernel
theorem dX7_finds_94 : decode cX7_finds 94 = .ok (.iadd, 1) := by decide +kernel
theorem dX7_finds_95 : decode cX7_finds 95 = .ok (.istore_n 3, 1) := by decide +kernel
theorem dX7_finds_96 : decode cX7_finds 96 = .ok (.iload_n 3, 1) := by decide +kernel
theorem dX7_finds_97 : decode cX7_finds 97 = .ok (.aload_n 0, 1) := by decide +kernel
theorem dX7_finds_98 : decode cX7_finds 98 = .ok (.getfield 7, 3) := by decide +kernel
theorem dX7_finds_101 : decode cX7_finds 101 = .ok (.iconst 0, 1) := by decide +kernel
theorem dX7_finds_102 : decode cX7_finds 102 = .ok (.iaload, 1) := by decide +kernel
theorem dX7_finds_103 : decode cX7_finds 103 = .ok (.if_icmp .ge 21, 3) := by decide +kernel
theorem dX7_finds_106 : decode cX7_finds 106 = .ok (.aload_n 0, 1) := by decide +kernel
theorem dX7_finds_107 : decode cX7_finds 107 = .ok (.iload_n 1, 1) := by decide +kernel
theorem dX7_finds_108 : decode cX7_finds 108 = .ok (.iload_n 2, 1) := by decide +kernel
theorem dX7_finds_109 : decode cX7_finds 109 = .ok (.iload_n 3, 1) := by decide +kernel
theorem dX7_finds_110 : decode cX7_finds 110 = .ok (.invokevirtual 351, 3) := by decide +kernel
theorem dX7_finds_113 : decode cX7_finds 113 = .ok (.ifCond .eq 5, 3) := by decide +kernel
theorem dX7_finds_116 : decode cX7_finds 116 = .ok (.iconst 1, 1) := by decide +kernel
theorem dX7_finds_117 : decode cX7_finds 117 = .ok (.ireturn, 1) := by decide +kernel
theorem dX7_finds_118 : decode cX7_finds 118 = .ok (.iinc 3 1, 3) := by decide +kernel
theorem dX7_finds_121 : decode cX7_finds 121 = .ok (.goto (-25), 3) := by decide +kernel
theorem dX7_finds_124 : decode cX7_finds 124 = .ok (.iinc 2 1, 3) := by decide +kernel
theorem dX7_finds_127 : decode cX7_finds 127 = .ok (.goto (-45), 3) := by decide +kernel
theorem dX7_finds_130 : decode cX7_finds 130 = .ok (.aload_n 0, 1) := by decide +kernel
theorem dX7_finds_131 : decode cX7_finds 131 = .ok (.getfield 7, 3) := by decide +kernel
theorem dX7_finds_134 : decode cX7_finds 134 = .ok (.bipush 9, 2) := by decide +kernel
theorem dX7_finds_136 : decode cX7_finds 136 = .ok (.iaload, 1) := by decide +kernel
theorem dX7_finds_137 : decode cX7_finds 137 = .ok (.ifCond .le 26, 3) := by decide +kernel
theorem dX7_finds_140 : decode cX7_finds 140 = .ok (.aload_n 0, 1) := by decide +kernel
theorem dX7_finds_141 : decode cX7_finds 141 = .ok (.getfield 326, 3) := by decide +kernel
theorem dX7_finds_144 : decode cX7_finds 144 = .ok (.ifCond .le 19, 3) := by decide +kernel
theorem dX7_finds_147 : decode cX7_finds 147 = .ok (.aload_n 0, 1) := by decide +kernel
theorem dX7_finds_148 : decode cX7_finds 148 = .ok (.iload_n 1, 1) := by decide +kernel
theorem dX7_finds_149 : decode cX7_finds 149 = .ok (.iconst 2, 1) := by decide +kernel
theorem dX7_finds_150 : decode cX7_finds 150 = .ok (.iconst (-1), 1) := by decide +kernel
theorem dX7_finds_151 : decode cX7_finds 151 = .ok (.iconst (-1), 1) := by decide +kernel
theorem dX7_finds_152 : decode cX7_finds 152 = .ok (.iconst 0, 1) := by decide +kernel
theorem dX7_finds_153 : decode cX7_finds 153 = .ok (.invokevirtual 347, 3) := by decide +kernel
theorem dX7_finds_156 : decode cX7_finds 156 = .ok (.ifCond .eq 7, 3) := by decide +kernel
theorem dX7_finds_159 : decode cX7_finds 159 = .ok (.iconst 1, 1) := by decide +kernel
theorem dX7_finds_160 : decode cX7_finds 160 = .ok (.goto 4, 3) := by decide +kernel
theorem dX7_finds_163 : decode cX7_finds 163 = .ok (.iconst 0, 1) := by decide +kernel
theorem dX7_finds_164 : decode cX7_finds 164 = .ok (.ireturn, 1) := by decide +kernel
theorem dX7_findsShared_0 : decode cX7_findsShared 0 = .ok (.aload_n 0, 1) := by decide +kernel
theorem dX7_findsShared_1 : decode cX7_findsShared 1 = .ok (.getfield 7, 3) := by decide +kernel
theorem dX7_findsShared_4 : decode cX7_findsShared 4 = .ok (.iconst 5, 1) := by decide +kernel
theorem dX7_findsShared_5 : decode cX7_findsShared 5 = .ok (.iload_n 2, 1) := by decide +kernel
theorem dX7_findsShared_6 : decode cX7_findsShared 6 = .ok (.iadd, 1) := by decide +kernel
theorem dX7_findsShared_7 : decode cX7_findsShared 7 = .ok (.iaload, 1) := by decide +kernel
theorem dX7_findsShared_8 : decode cX7_findsShared 8 = .ok (.aload_n 0, 1) := by decide +kernel
theorem dX7_findsShared_9 : decode cX7_findsShared 9 = .ok (.getfield 7, 3) := by decide +kernel
theorem dX7_findsShared_12 : decode cX7_findsShared 12 = .ok (.iconst 5, 1) := by decide +kernel
theorem dX7_findsShared_13 : decode cX7_findsShared 13 = .ok (.iload_n 3, 1) := by decide +kernel
theorem dX7_findsShared_14 : decode cX7_findsShared 14 = .ok (.iadd, 1) := by decide +kernel
theorem dX7_findsShared_15 : decode cX7_findsShared 15 = .ok (.iaload, 1) := by decide +kernel
theorem dX7_findsShared_16 : decode cX7_findsShared 16 = .ok (.if_icmp .ge 14, 3) := by decide +kernel
theorem dX7_findsShared_19 : decode cX7_findsShared 19 = .ok (.aload_n 0, 1) := by decide +kernel
theorem dX7_findsShared_20 : decode cX7_findsShared 20 = .ok (.getfield 7, 3) := by decide +kernel
theorem dX7_findsShared_23 : decode cX7_findsShared 23 = .ok (.iconst 5, 1) := by decide +kernel
theorem dX7_findsShared_24 : decode cX7_findsShared 24 = .ok (.iload_n 2, 1) := by decide +kernel
theorem dX7_findsShared_25 : decode cX7_findsShared 25 = .ok (.iadd, 1) := by decide +kernel
theorem dX7_findsShared_26 : decode cX7_findsShared 26 = .ok (.iaload, 1) := by decide +kernel
theorem dX7_findsShared_27 : decode cX7_findsShared 27 = .ok (.goto 11, 3) := by decide +kernel
theorem dX7_findsShared_30 : decode cX7_findsShared 30 = .ok (.aload_n 0, 1) := by decide +kernel
theorem dX7_findsShared_31 : decode cX7_findsShared 31 = .ok (.getfield 7, 3) := by decide +kernel
theorem dX7_findsShared_34 : decode cX7_findsShared 34 = .ok (.iconst 5, 1) := by decide +kernel
theorem dX7_findsShared_35 : decode cX7_findsShared 35 = .ok (.iload_n 3, 1) := by decide +kernel
theorem dX7_findsShared_36 : decode cX7_findsShared 36 = .ok (.iadd, 1) := by decide +kernel
theorem dX7_findsShared_37 : decode cX7_findsShared 37 = .ok (.iaload, 1) := by decide +kernel
