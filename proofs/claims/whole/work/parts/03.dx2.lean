theorem dX5_kindOfToken_22 : decode cX5_kindOfToken 22 = .ok (.aload_n 0, 1) := by decide +kernel
theorem dX5_kindOfToken_23 : decode cX5_kindOfToken 23 = .ok (.ldc 172, 2) := by decide +kernel
theorem dX5_kindOfToken_25 : decode cX5_kindOfToken 25 = .ok (.invokevirtual 61, 3) := by decide +kernel
theorem dX5_kindOfToken_28 : decode cX5_kindOfToken 28 = .ok (.ifCond .eq 5, 3) := by decide +kernel
theorem dX5_kindOfToken_31 : decode cX5_kindOfToken 31 = .ok (.iconst 2, 1) := by decide +kernel
theorem dX5_kindOfToken_32 : decode cX5_kindOfToken 32 = .ok (.ireturn, 1) := by decide +kernel
theorem dX5_kindOfToken_33 : decode cX5_kindOfToken 33 = .ok (.aload_n 0, 1) := by decide +kernel
theorem dX5_kindOfToken_34 : decode cX5_kindOfToken 34 = .ok (.ldc 174, 2) := by decide +kernel
theorem dX5_kindOfToken_36 : decode cX5_kindOfToken 36 = .ok (.invokevirtual 61, 3) := by decide +kernel
theorem dX5_kindOfToken_39 : decode cX5_kindOfToken 39 = .ok (.ifCond .eq 5, 3) := by decide +kernel
theorem dX5_kindOfToken_42 : decode cX5_kindOfToken 42 = .ok (.iconst 3, 1) := by decide +kernel
theorem dX5_kindOfToken_43 : decode cX5_kindOfToken 43 = .ok (.ireturn, 1) := by decide +kernel
theorem dX5_kindOfToken_44 : decode cX5_kindOfToken 44 = .ok (.aload_n 0, 1) := by decide +kernel
theorem dX5_kindOfToken_45 : decode cX5_kindOfToken 45 = .ok (.ldc 176, 2) := by decide +kernel
theorem dX5_kindOfToken_47 : decode cX5_kindOfToken 47 = .ok (.invokevirtual 61, 3) := by decide +kernel
theorem dX5_kindOfToken_50 : decode cX5_kindOfToken 50 = .ok (.ifCond .eq 7, 3) := by decide +kernel
theorem dX5_kindOfToken_53 : decode cX5_kindOfToken 53 = .ok (.iconst 4, 1) := by decide +kernel
theorem dX5_kindOfToken_54 : decode cX5_kindOfToken 54 = .ok (.goto 4, 3) := by decide +kernel
theorem dX5_kindOfToken_57 : decode cX5_kindOfToken 57 = .ok (.iconst (-1), 1) := by decide +kernel
theorem dX5_kindOfToken_58 : decode cX5_kindOfToken 58 = .ok (.ireturn, 1) := by decide +kernel
theorem dX6_init_0 : decode cX6_init 0 = .ok (.aload_n 0, 1) := by decide +kernel
theorem dX6_init_1 : decode cX6_init 1 = .ok (.invokespecial 3, 3) := by decide +kernel
theorem dX6_init_4 : decode cX6_init 4 = .ok (.aload_n 0, 1) := by decide +kernel
theorem dX6_init_5 : decode cX6_init 5 = .ok (.new 9, 3) := by decide +kernel
theorem dX6_init_8 : decode cX6_init 8 = .ok (.dup, 1) := by decide +kernel
theorem dX6_init_9 : decode cX6_init 9 = .ok (.invokespecial 11, 3) := by decide +kernel
theorem dX6_init_12 : decode cX6_init 12 = .ok (.putfield 12, 3) := by decide +kernel
theorem dX6_init_15 : decode cX6_init 15 = .ok (.aload_n 0, 1) := by decide +kernel
theorem dX6_init_16 : decode cX6_init 16 = .ok (.new 16, 3) := by decide +kernel
theorem dX6_init_19 : decode cX6_init 19 = .ok (.dup, 1) := by decide +kernel
theorem dX6_init_20 : decode cX6_init 20 = .ok (.invokespecial 18, 3) := by decide +kernel
theorem dX6_init_23 : decode cX6_init 23 = .ok (.putfield 19, 3) := by decide +kernel
theorem dX6_init_26 : decode cX6_init 26 = .ok (.aload_n 0, 1) := by decide +kernel
theorem dX6_init_27 : decode cX6_init 27 = .ok (.new 23, 3) := by decide +kernel
theorem dX6_init_30 : decode cX6_init 30 = .ok (.dup, 1) := by decide +kernel
theorem dX6_init_31 : decode cX6_init 31 = .ok (.invokespecial 25, 3) := by decide +kernel
theorem dX6_init_34 : decode cX6_init 34 = .ok (.putfield 26, 3) := by decide +kernel
theorem dX6_init_37 : decode cX6_init 37 = .ok (.aload_n 0, 1) := by decide +kernel
theorem dX6_init_38 : decode cX6_init 38 = .ok (.new 30, 3) := by decide +kernel
theorem dX6_init_41 : decode cX6_init 41 = .ok (.dup, 1) := by decide +kernel
theorem dX6_init_42 : decode cX6_init 42 = .ok (.invokespecial 32, 3) := by decide +kernel
theorem dX6_init_45 : decode cX6_init 45 = .ok (.putfield 33, 3) := by decide +kernel
theorem dX6_init_48 : decode cX6_init 48 = .ok (.aload_n 0, 1) := by decide +kernel
theorem dX6_init_49 : decode cX6_init 49 = .ok (.iconst 2, 1) := by decide +kernel
theorem dX6_init_50 : decode cX6_init 50 = .ok (.anewarray 37, 3) := by decide +kernel
theorem dX6_init_53 : decode cX6_init 53 = .ok (.putfield 39, 3) := by decide +kernel
theorem dX6_init_56 : decode cX6_init 56 = .ok (.aload_n 0, 1) := by decide +kernel
theorem dX6_init_57 : decode cX6_init 57 = .ok (.iconst 2, 1) := by decide +kernel
theorem dX6_init_58 : decode cX6_init 58 = .ok (.newarray .boolean, 2) := by decide +kernel
theorem dX6_init_60 : decode cX6_init 60 = .ok (.putfield 43, 3) := by decide +kernel
theorem dX6_init_63 : decode cX6_init 63 = .ok (.iconst 0, 1) := by decide +kernel
theorem dX6_init_64 : decode cX6_init 64 = .ok (.istore_n 1, 1) := by decide +kernel
theorem dX6_init_65 : decode cX6_init 65 = .ok (.iload_n 1, 1) := by decide +kernel
theorem dX6_init_66 : decode cX6_init 66 = .ok (.iconst 2, 1) := by decide +kernel
theorem dX6_init_67 : decode cX6_init 67 = .ok (.if_icmp .ge 22, 3) := by decide +kernel
theorem dX6_init_70 : decode cX6_init 70 = .ok (.aload_n 0, 1) := by decide +kernel
theorem dX6_init_71 : decode cX6_init 71 = .ok (.getfield 39, 3) := by decide +kernel
theorem dX6_init_74 : decode cX6_init 74 = .ok (.iload_n 1, 1) := by decide +kernel
theorem dX6_init_75 : decode cX6_init 75 = .ok (.new 37, 3) := by decide +kernel
theorem dX6_init_78 : decode cX6_init 78 = .ok (.dup, 1) := by decide +kernel
theorem dX6_init_79 : decode cX6_init 79 = .ok (.invokespecial 47, 3) := by decide +kernel
theorem dX6_init_82 : decode cX6_init 82 = .ok (.aastore, 1) := by decide +kernel
theorem dX6_init_83 : decode cX6_init 83 = .ok (.iinc 1 1, 3) := by decide +kernel
theorem dX6_init_86 : decode cX6_init 86 = .ok (.goto (-21), 3) := by decide +kernel
theorem dX6_init_89 : decode cX6_init 89 = .ok (.return_, 1) := by decide +kernel
theorem dX6_append_0 : decode cX6_append 0 = .ok (.aload_n 0, 1) := by decide +kernel
theorem dX6_append_1 : decode cX6_append 1 = .ok (.getfield 19, 3) := by decide +kernel
theorem dX6_append_4 : decode cX6_append 4 = .ok (.getfield 48, 3) := by decide +kernel
theorem dX6_append_7 : decode cX6_append 7 = .ok (.bipush 20, 2) := by decide +kernel
theorem dX6_append_9 : decode cX6_append 9 = .ok (.iadd, 1) := by decide +kernel
theorem dX6_append_10 : decode cX6_append 10 = .ok (.sipush 400, 3) := by decide +kernel
theorem dX6_append_13 : decode cX6_append 13 = .ok (.if_icmp .le 5, 3) := by decide +kernel
theorem dX6_append_16 : decode cX6_append 16 = .ok (.iconst (-1), 1) := by decide +kernel
theorem dX6_append_17 : decode cX6_append 17 = .ok (.ireturn, 1) := by decide +kernel
theorem dX6_append_18 : decode cX6_append 18 = .ok (.aload_n 0, 1) := by decide +kernel
theorem dX6_append_19 : decode cX6_append 19 = .ok (.getfield 19, 3) := by decide +kernel
theorem dX6_append_22 : decode cX6_append 22 = .ok (.iload_n 1, 1) := by decide +kernel
theorem dX6_append_23 : decode cX6_append 23 = .ok (.invokevirtual 52, 3) := by decide +kernel
theorem dX6_append_26 : decode cX6_append 26 = .ok (.aload_n 0, 1) := by decide +kernel
theorem dX6_append_27 : decode cX6_append 27 = .ok (.getfield 19, 3) := by decide +kernel
theorem dX6_append_30 : decode cX6_append 30 = .ok (.iload_n 2, 1) := by decide +kernel
theorem dX6_append_31 : decode cX6_append 31 = .ok (.invokevirtual 52, 3) := by decide +kernel
theorem dX6_append_34 : decode cX6_append 34 = .ok (.aload_n 0, 1) := by decide +kernel
theorem dX6_append_35 : decode cX6_append 35 = .ok (.getfield 19, 3) := by decide +kernel
theorem dX6_append_38 : decode cX6_append 38 = .ok (.iload_n 3, 1) := by decide +kernel
theorem dX6_append_39 : decode cX6_append 39 = .ok (.invokevirtual 52, 3) := by decide +kernel
theorem dX6_append_42 : decode cX6_append 42 = .ok (.aload_n 0, 1) := by decide +kernel
theorem dX6_append_43 : decode cX6_append 43 = .ok (.getfield 19, 3) := by decide +kernel
theorem dX6_append_46 : decode cX6_append 46 = .ok (.iload 4, 2) := by decide +kernel
theorem dX6_append_48 : decode cX6_append 48 = .ok (.invokevirtual 52, 3) := by decide +kernel
theorem dX6_append_51 : decode cX6_append 51 = .ok (.aload_n 0, 1) := by decide +kernel
theorem dX6_append_52 : decode cX6_append 52 = .ok (.getfield 19, 3) := by decide +kernel
theorem dX6_append_55 : decode cX6_append 55 = .ok (.iload 5, 2) := by decide +kernel
theorem dX6_append_57 : decode cX6_append 57 = .ok (.invokevirtual 52, 3) := by decide +kernel
theorem dX6_append_60 : decode cX6_append 60 = .ok (.aload_n 0, 1) := by decide +kernel
theorem dX6_append_61 : decode cX6_append 61 = .ok (.getfield 19, 3) := by decide +kernel
theorem dX6_append_64 : decode cX6_append 64 = .ok (.getfield 48, 3) := by decide +kernel
theorem dX6_append_67 : decode cX6_append 67 = .ok (.ireturn, 1) := by decide +kernel
theorem dX6_parse_0 : decode cX6_parse 0 = .ok (.iload_n 1, 1) := by decide +kernel
theorem dX6_parse_1 : decode cX6_parse 1 = .ok (.ifCond .lt 14, 3) := by decide +kernel
theorem dX6_parse_4 : decode cX6_parse 4 = .ok (.iload_n 1, 1) := by decide +kernel
theorem dX6_parse_5 : decode cX6_parse 5 = .ok (.aload_n 0, 1) := by decide +kernel
theorem dX6_parse_6 : decode cX6_parse 6 = .ok (.getfield 19, 3) := by decide +kernel
theorem dX6_parse_9 : decode cX6_parse 9 = .ok (.getfield 48, 3) := by decide +kernel
theorem dX6_parse_12 : decode cX6_parse 12 = .ok (.if_icmp .le 13, 3) := by decide +kernel
theorem dX6_parse_15 : decode cX6_parse 15 = .ok (.new 56, 3) := by decide +kernel
theorem dX6_parse_18 : decode cX6_parse 18 = .ok (.dup, 1) := by decide +kernel
theorem dX6_parse_19 : decode cX6_parse 19 = .ok (.ldc 58, 2) := by decide +kernel
theorem dX6_parse_21 : decode cX6_parse 21 = .ok (.invokespecial 60, 3) := by decide +kernel
theorem dX6_parse_24 : decode cX6_parse 24 = .ok (.athrow, 1) := by decide +kernel
theorem dX6_parse_25 : decode cX6_parse 25 = .ok (.aload_n 0, 1) := by decide +kernel
theorem dX6_parse_26 : decode cX6_parse 26 = .ok (.getfield 19, 3) := by decide +kernel
theorem dX6_parse_29 : decode cX6_parse 29 = .ok (.iconst 0, 1) := by decide +kernel
theorem dX6_parse_30 : decode cX6_parse 30 = .ok (.putfield 48, 3) := by decide +kernel
theorem dX6_parse_33 : decode cX6_parse 33 = .ok (.aload_n 0, 1) := by decide +kernel
theorem dX6_parse_34 : decode cX6_parse 34 = .ok (.getfield 19, 3) := by decide +kernel
theorem dX6_parse_37 : decode cX6_parse 37 = .ok (.iload_n 1, 1) := by decide +kernel
theorem dX6_parse_38 : decode cX6_parse 38 = .ok (.invokevirtual 63, 3) := by decide +kernel
theorem dX6_parse_41 : decode cX6_parse 41 = .ok (.ifCond .ne 11, 3) := by decide +kernel
theorem dX6_parse_44 : decode cX6_parse 44 = .ok (.aload_n 0, 1) := by decide +kernel
theorem dX6_parse_45 : decode cX6_parse 45 = .ok (.getfield 19, 3) := by decide +kernel
theorem dX6_parse_48 : decode cX6_parse 48 = .ok (.getfield 67, 3) := by decide +kernel
theorem dX6_parse_51 : decode cX6_parse 51 = .ok (.ireturn, 1) := by decide +kernel
theorem dX6_parse_52 : decode cX6_parse 52 = .ok (.aload_n 0, 1) := by decide +kernel
theorem dX6_parse_53 : decode cX6_parse 53 = .ok (.getfield 12, 3) := by decide +kernel
theorem dX6_parse_56 : decode cX6_parse 56 = .ok (.astore_n 2, 1) := by decide +kernel
theorem dX6_parse_57 : decode cX6_parse 57 = .ok (.aload_n 0, 1) := by decide +kernel
theorem dX6_parse_58 : decode cX6_parse 58 = .ok (.aload_n 0, 1) := by decide +kernel
theorem dX6_parse_59 : decode cX6_parse 59 = .ok (.getfield 19, 3) := by decide +kernel
theorem dX6_parse_62 : decode cX6_parse 62 = .ok (.getfield 70, 3) := by decide +kernel
theorem dX6_parse_65 : decode cX6_parse 65 = .ok (.putfield 12, 3) := by decide +kernel
theorem dX6_parse_68 : decode cX6_parse 68 = .ok (.aload_n 0, 1) := by decide +kernel
theorem dX6_parse_69 : decode cX6_parse 69 = .ok (.getfield 19, 3) := by decide +kernel
theorem dX6_parse_72 : decode cX6_parse 72 = .ok (.aload_n 2, 1) := by decide +kernel
theorem dX6_parse_73 : decode cX6_parse 73 = .ok (.putfield 70, 3) := by decide +kernel
theorem dX6_parse_76 : decode cX6_parse 76 = .ok (.aload_n 0, 1) := by decide +kernel
theorem dX6_parse_77 : decode cX6_parse 77 = .ok (.getfield 12, 3) := by decide +kernel
theorem dX6_parse_80 : decode cX6_parse 80 = .ok (.invokevirtual 73, 3) := by decide +kernel
theorem dX6_parse_83 : decode cX6_parse 83 = .ok (.aload_n 0, 1) := by decide +kernel
theorem dX6_parse_84 : decode cX6_parse 84 = .ok (.getfield 26, 3) := by decide +kernel
theorem dX6_parse_87 : decode cX6_parse 87 = .ok (.invokevirtual 76, 3) := by decide +kernel
theorem dX6_parse_90 : decode cX6_parse 90 = .ok (.aload_n 0, 1) := by decide +kernel
theorem dX6_parse_91 : decode cX6_parse 91 = .ok (.getfield 33, 3) := by decide +kernel
theorem dX6_parse_94 : decode cX6_parse 94 = .ok (.invokevirtual 79, 3) := by decide +kernel
theorem dX6_parse_97 : decode cX6_parse 97 = .ok (.iconst 0, 1) := by decide +kernel
theorem dX6_parse_98 : decode cX6_parse 98 = .ok (.istore_n 3, 1) := by decide +kernel
theorem dX6_parse_99 : decode cX6_parse 99 = .ok (.iload_n 3, 1) := by decide +kernel
theorem dX6_parse_100 : decode cX6_parse 100 = .ok (.iconst 2, 1) := by decide +kernel
theorem dX6_parse_101 : decode cX6_parse 101 = .ok (.if_icmp .ge 16, 3) := by decide +kernel
theorem dX6_parse_104 : decode cX6_parse 104 = .ok (.aload_n 0, 1) := by decide +kernel
theorem dX6_parse_105 : decode cX6_parse 105 = .ok (.getfield 43, 3) := by decide +kernel
theorem dX6_parse_108 : decode cX6_parse 108 = .ok (.iload_n 3, 1) := by decide +kernel
theorem dX6_parse_109 : decode cX6_parse 109 = .ok (.iconst 0, 1) := by decide +kernel
theorem dX6_parse_110 : decode cX6_parse 110 = .ok (.bastore, 1) := by decide +kernel
theorem dX6_parse_111 : decode cX6_parse 111 = .ok (.iinc 3 1, 3) := by decide +kernel
theorem dX6_parse_114 : decode cX6_parse 114 = .ok (.goto (-15), 3) := by decide +kernel
theorem dX6_parse_117 : decode cX6_parse 117 = .ok (.aload_n 0, 1) := by decide +kernel
theorem dX6_parse_118 : decode cX6_parse 118 = .ok (.getfield 12, 3) := by decide +kernel
theorem dX6_parse_121 : decode cX6_parse 121 = .ok (.getfield 82, 3) := by decide +kernel
theorem dX6_parse_124 : decode cX6_parse 124 = .ok (.ireturn, 1) := by decide +kernel
theorem dX6_size_0 : decode cX6_size 0 = .ok (.aload_n 0, 1) := by decide +kernel
theorem dX6_size_1 : decode cX6_size 1 = .ok (.getfield 12, 3) := by decide +kernel
theorem dX6_size_4 : decode cX6_size 4 = .ok (.getfield 85, 3) := by decide +kernel
theorem dX6_size_7 : decode cX6_size 7 = .ok (.astore_n 2, 1) := by decide +kernel
theorem dX6_size_8 : decode cX6_size 8 = .ok (.iload_n 1, 1) := by decide +kernel
theorem dX6_size_9 : decode cX6_size 9 = .ok (.tableswitch 128 0 9 #[55, 63, 68, 76, 84, 97, 105, 110, 115, 120], 55) := by decide +kernel
theorem dX6_size_64 : decode cX6_size 64 = .ok (.aload_n 0, 1) := by decide +kernel
theorem dX6_size_65 : decode cX6_size 65 = .ok (.getfield 12, 3) := by decide +kernel
theorem dX6_size_68 : decode cX6_size 68 = .ok (.getfield 82, 3) := by decide +kernel
theorem dX6_size_71 : decode cX6_size 71 = .ok (.ireturn, 1) := by decide +kernel
theorem dX6_size_72 : decode cX6_size 72 = .ok (.aload_n 2, 1) := by decide +kernel
theorem dX6_size_73 : decode cX6_size 73 = .ok (.getfield 89, 3) := by decide +kernel
theorem dX6_size_76 : decode cX6_size 76 = .ok (.ireturn, 1) := by decide +kernel
theorem dX6_size_77 : decode cX6_size 77 = .ok (.aload_n 2, 1) := by decide +kernel
theorem dX6_size_78 : decode cX6_size 78 = .ok (.getfield 92, 3) := by decide +kernel
theorem dX6_size_81 : decode cX6_size 81 = .ok (.invokestatic 95, 3) := by decide +kernel
theorem dX6_size_84 : decode cX6_size 84 = .ok (.ireturn, 1) := by decide +kernel
theorem dX6_size_85 : decode cX6_size 85 = .ok (.aload_n 0, 1) := by decide +kernel
theorem dX6_size_86 : decode cX6_size 86 = .ok (.getfield 12, 3) := by decide +kernel
theorem dX6_size_89 : decode cX6_size 89 = .ok (.getfield 99, 3) := by decide +kernel
theorem dX6_size_92 : decode cX6_size 92 = .ok (.ireturn, 1) := by decide +kernel
theorem dX6_size_93 : decode cX6_size 93 = .ok (.aload_n 2, 1) := by decide +kernel
theorem dX6_size_94 : decode cX6_size 94 = .ok (.getfield 102, 3) := by decide +kernel
theorem dX6_size_97 : decode cX6_size 97 = .ok (.ifCond .eq 7, 3) := by decide +kernel
theorem dX6_size_100 : decode cX6_size 100 = .ok (.iconst 1, 1) := by decide +kernel
theorem dX6_size_101 : decode cX6_size 101 = .ok (.goto 4, 3) := by decide +kernel
theorem dX6_size_104 : decode cX6_size 104 = .ok (.iconst 0, 1) := by decide +kernel
theorem dX6_size_105 : decode cX6_size 105 = .ok (.ireturn, 1) := by decide +kernel
theorem dX6_size_106 : decode cX6_size 106 = .ok (.aload_n 0, 1) := by decide +kernel
theorem dX6_size_107 : decode cX6_size 107 = .ok (.getfield 19, 3) := by decide +kernel
theorem dX6_size_110 : decode cX6_size 110 = .ok (.getfield 48, 3) := by decide +kernel
theorem dX6_size_113 : decode cX6_size 113 = .ok (.ireturn, 1) := by decide +kernel
theorem dX6_size_114 : decode cX6_size 114 = .ok (.aload_n 2, 1) := by decide +kernel
theorem dX6_size_115 : decode cX6_size 115 = .ok (.getfield 106, 3) := by decide +kernel
theorem dX6_size_118 : decode cX6_size 118 = .ok (.ireturn, 1) := by decide +kernel
theorem dX6_size_119 : decode cX6_size 119 = .ok (.aload_n 0, 1) := by decide +kernel
theorem dX6_size_120 : decode cX6_size 120 = .ok (.invokevirtual 109, 3) := by decide +kernel
theorem dX6_size_123 : decode cX6_size 123 = .ok (.ireturn, 1) := by decide +kernel
theorem dX6_size_124 : decode cX6_size 124 = .ok (.aload_n 0, 1) := by decide +kernel
theorem dX6_size_125 : decode cX6_size 125 = .ok (.invokevirtual 113, 3) := by decide +kernel
theorem dX6_size_128 : decode cX6_size 128 = .ok (.ireturn, 1) := by decide +kernel
theorem dX6_size_129 : decode cX6_size 129 = .ok (.aload_n 0, 1) := by decide +kernel
theorem dX6_size_130 : decode cX6_size 130 = .ok (.getfield 33, 3) := by decide +kernel
theorem dX6_size_133 : decode cX6_size 133 = .ok (.getfield 116, 3) := by decide +kernel
theorem dX6_size_136 : decode cX6_size 136 = .ok (.ireturn, 1) := by decide +kernel
theorem dX6_size_137 : decode cX6_size 137 = .ok (.new 56, 3) := by decide +kernel
theorem dX6_size_140 : decode cX6_size 140 = .ok (.dup, 1) := by decide +kernel
theorem dX6_size_141 : decode cX6_size 141 = .ok (.ldc 119, 2) := by decide +kernel
theorem dX6_size_143 : decode cX6_size 143 = .ok (.invokespecial 60, 3) := by decide +kernel
theorem dX6_size_146 : decode cX6_size 146 = .ok (.athrow, 1) := by decide +kernel
theorem dX6_playerToMove_0 : decode cX6_playerToMove 0 = .ok (.aload_n 0, 1) := by decide +kernel
theorem dX6_playerToMove_1 : decode cX6_playerToMove 1 = .ok (.getfield 12, 3) := by decide +kernel
theorem dX6_playerToMove_4 : decode cX6_playerToMove 4 = .ok (.getfield 85, 3) := by decide +kernel
theorem dX6_playerToMove_7 : decode cX6_playerToMove 7 = .ok (.getfield 106, 3) := by decide +kernel
theorem dX6_playerToMove_10 : decode cX6_playerToMove 10 = .ok (.iconst 2, 1) := by decide +kernel
theorem dX6_playerToMove_11 : decode cX6_playerToMove 11 = .ok (.irem, 1) := by decide +kernel
theorem dX6_playerToMove_12 : decode cX6_playerToMove 12 = .ok (.ireturn, 1) := by decide +kernel
theorem dX6_winner_0 : decode cX6_winner 0 = .ok (.aload_n 0, 1) := by decide +kernel
theorem dX6_winner_1 : decode cX6_winner 1 = .ok (.invokevirtual 121, 3) := by decide +kernel
theorem dX6_winner_4 : decode cX6_winner 4 = .ok (.ifCond .le 5, 3) := by decide +kernel
theorem dX6_winner_7 : decode cX6_winner 7 = .ok (.iconst (-1), 1) := by decide +kernel
theorem dX6_winner_8 : decode cX6_winner 8 = .ok (.ireturn, 1) := by decide +kernel
theorem dX6_winner_9 : decode cX6_winner 9 = .ok (.aload_n 0, 1) := by decide +kernel
theorem dX6_winner_10 : decode cX6_winner 10 = .ok (.getfield 12, 3) := by decide +kernel
theorem dX6_winner_13 : decode cX6_winner 13 = .ok (.getfield 85, 3) := by decide +kernel
theorem dX6_winner_16 : decode cX6_winner 16 = .ok (.getfield 102, 3) := by decide +kernel
theorem dX6_winner_19 : decode cX6_winner 19 = .ok (.ifCond .eq 10, 3) := by decide +kernel
theorem dX6_winner_22 : decode cX6_winner 22 = .ok (.aload_n 0, 1) := by decide +kernel
theorem dX6_winner_23 : decode cX6_winner 23 = .ok (.invokevirtual 109, 3) := by decide +kernel
theorem dX6_winner_26 : decode cX6_winner 26 = .ok (.goto 9, 3) := by decide +kernel
theorem dX6_winner_29 : decode cX6_winner 29 = .ok (.iconst 1, 1) := by decide +kernel
theorem dX6_winner_30 : decode cX6_winner 30 = .ok (.aload_n 0, 1) := by decide +kernel
theorem dX6_winner_31 : decode cX6_winner 31 = .ok (.invokevirtual 109, 3) := by decide +kernel
theorem dX6_winner_34 : decode cX6_winner 34 = .ok (.isub, 1) := by decide +kernel
theorem dX6_winner_35 : decode cX6_winner 35 = .ok (.ireturn, 1) := by decide +kernel
theorem dX6_kind_0 : decode cX6_kind 0 = .ok (.aload_n 0, 1) := by decide +kernel
theorem dX6_kind_1 : decode cX6_kind 1 = .ok (.iload_n 1, 1) := by decide +kernel
theorem dX6_kind_2 : decode cX6_kind 2 = .ok (.invokevirtual 124, 3) := by decide +kernel
theorem dX6_kind_5 : decode cX6_kind 5 = .ok (.getfield 128, 3) := by decide +kernel
theorem dX6_kind_8 : decode cX6_kind 8 = .ok (.ireturn, 1) := by decide +kernel
theorem dX6_mayTake_0 : decode cX6_mayTake 0 = .ok (.aload_n 0, 1) := by decide +kernel
theorem dX6_mayTake_1 : decode cX6_mayTake 1 = .ok (.iload_n 1, 1) := by decide +kernel
theorem dX6_mayTake_2 : decode cX6_mayTake 2 = .ok (.invokevirtual 124, 3) := by decide +kernel
theorem dX6_mayTake_5 : decode cX6_mayTake 5 = .ok (.astore 4, 2) := by decide +kernel
theorem dX6_mayTake_7 : decode cX6_mayTake 7 = .ok (.iload_n 2, 1) := by decide +kernel
theorem dX6_mayTake_8 : decode cX6_mayTake 8 = .ok (.invokestatic 133, 3) := by decide +kernel
theorem dX6_mayTake_11 : decode cX6_mayTake 11 = .ok (.aload 4, 2) := by decide +kernel
theorem dX6_mayTake_13 : decode cX6_mayTake 13 = .ok (.iload_n 2, 1) := by decide +kernel
theorem dX6_mayTake_14 : decode cX6_mayTake 14 = .ok (.iload_n 3, 1) := by decide +kernel
theorem dX6_mayTake_15 : decode cX6_mayTake 15 = .ok (.invokevirtual 136, 3) := by decide +kernel
theorem dX6_mayTake_18 : decode cX6_mayTake 18 = .ok (.ireturn, 1) := by decide +kernel
theorem dX6_amounts_0 : decode cX6_amounts 0 = .ok (.aload_n 0, 1) := by decide +kernel
theorem dX6_amounts_1 : decode cX6_amounts 1 = .ok (.iload_n 1, 1) := by decide +kernel
theorem dX6_amounts_2 : decode cX6_amounts 2 = .ok (.invokevirtual 124, 3) := by decide +kernel
theorem dX6_amounts_5 : decode cX6_amounts 5 = .ok (.astore_n 3, 1) := by decide +kernel
theorem dX6_amounts_6 : decode cX6_amounts 6 = .ok (.iload_n 2, 1) := by decide +kernel
theorem dX6_amounts_7 : decode cX6_amounts 7 = .ok (.invokestatic 133, 3) := by decide +kernel
theorem dX6_amounts_10 : decode cX6_amounts 10 = .ok (.aload_n 3, 1) := by decide +kernel
theorem dX6_amounts_11 : decode cX6_amounts 11 = .ok (.iload_n 2, 1) := by decide +kernel
theorem dX6_amounts_12 : decode cX6_amounts 12 = .ok (.invokevirtual 140, 3) := by decide +kernel
theorem dX6_amounts_15 : decode cX6_amounts 15 = .ok (.ireturn, 1) := by decide +kernel
theorem dX6_value_0 : decode cX6_value 0 = .ok (.aload_n 0, 1) := by decide +kernel
theorem dX6_value_1 : decode cX6_value 1 = .ok (.iload_n 1, 1) := by decide +kernel
theorem dX6_value_2 : decode cX6_value 2 = .ok (.invokevirtual 124, 3) := by decide +kernel
theorem dX6_value_5 : decode cX6_value 5 = .ok (.astore_n 3, 1) := by decide +kernel
theorem dX6_value_6 : decode cX6_value 6 = .ok (.iload_n 2, 1) := by decide +kernel
theorem dX6_value_7 : decode cX6_value 7 = .ok (.invokestatic 133, 3) := by decide +kernel
theorem dX6_value_10 : decode cX6_value 10 = .ok (.aload_n 3, 1) := by decide +kernel
theorem dX6_value_11 : decode cX6_value 11 = .ok (.iload_n 2, 1) := by decide +kernel
theorem dX6_value_12 : decode cX6_value 12 = .ok (.invokevirtual 143, 3) := by decide +kernel
theorem dX6_value_15 : decode cX6_value 15 = .ok (.ireturn, 1) := by decide +kernel
theorem dX6_heapWith_0 : decode cX6_heapWith 0 = .ok (.aload_n 0, 1) := by decide +kernel
theorem dX6_heapWith_1 : decode cX6_heapWith 1 = .ok (.iload_n 1, 1) := by decide +kernel
theorem dX6_heapWith_2 : decode cX6_heapWith 2 = .ok (.invokevirtual 124, 3) := by decide +kernel
theorem dX6_heapWith_5 : decode cX6_heapWith 5 = .ok (.astore 4, 2) := by decide +kernel
theorem dX6_heapWith_7 : decode cX6_heapWith 7 = .ok (.iload_n 3, 1) := by decide +kernel
theorem dX6_heapWith_8 : decode cX6_heapWith 8 = .ok (.istore 5, 2) := by decide +kernel
theorem dX6_heapWith_10 : decode cX6_heapWith 10 = .ok (.iconst 0, 1) := by decide +kernel
theorem dX6_heapWith_11 : decode cX6_heapWith 11 = .ok (.istore 6, 2) := by decide +kernel
theorem dX6_heapWith_13 : decode cX6_heapWith 13 = .ok (.iload 6, 2) := by decide +kernel
theorem dX6_heapWith_15 : decode cX6_heapWith 15 = .ok (.sipush 300, 3) := by decide +kernel
theorem dX6_heapWith_18 : decode cX6_heapWith 18 = .ok (.if_icmp .gt 36, 3) := by decide +kernel
theorem dX6_heapWith_21 : decode cX6_heapWith 21 = .ok (.iload 5, 2) := by decide +kernel
theorem dX6_heapWith_23 : decode cX6_heapWith 23 = .ok (.ifCond .lt 31, 3) := by decide +kernel
theorem dX6_heapWith_26 : decode cX6_heapWith 26 = .ok (.aload 4, 2) := by decide +kernel
theorem dX6_heapWith_28 : decode cX6_heapWith 28 = .ok (.iload 6, 2) := by decide +kernel
theorem dX6_heapWith_30 : decode cX6_heapWith 30 = .ok (.invokevirtual 143, 3) := by decide +kernel
theorem dX6_heapWith_33 : decode cX6_heapWith 33 = .ok (.iload_n 2, 1) := by decide +kernel
theorem dX6_heapWith_34 : decode cX6_heapWith 34 = .ok (.if_icmp .ne 14, 3) := by decide +kernel
theorem dX6_heapWith_37 : decode cX6_heapWith 37 = .ok (.iload 5, 2) := by decide +kernel
theorem dX6_heapWith_39 : decode cX6_heapWith 39 = .ok (.ifCond .ne 6, 3) := by decide +kernel
theorem dX6_heapWith_42 : decode cX6_heapWith 42 = .ok (.iload 6, 2) := by decide +kernel
theorem dX6_heapWith_44 : decode cX6_heapWith 44 = .ok (.ireturn, 1) := by decide +kernel
theorem dX6_heapWith_45 : decode cX6_heapWith 45 = .ok (.iinc 5 (-1), 3) := by decide +kernel
theorem dX6_heapWith_48 : decode cX6_heapWith 48 = .ok (.iinc 6 1, 3) := by decide +kernel
theorem dX6_heapWith_51 : decode cX6_heapWith 51 = .ok (.goto (-38), 3) := by decide +kernel
theorem dX6_heapWith_54 : decode cX6_heapWith 54 = .ok (.iconst (-1), 1) := by decide +kernel
theorem dX6_heapWith_55 : decode cX6_heapWith 55 = .ok (.ireturn, 1) := by decide +kernel
theorem dX6_greatest_0 : decode cX6_greatest 0 = .ok (.aload_n 0, 1) := by decide +kernel
theorem dX6_greatest_1 : decode cX6_greatest 1 = .ok (.iload_n 1, 1) := by decide +kernel
theorem dX6_greatest_2 : decode cX6_greatest 2 = .ok (.invokevirtual 124, 3) := by decide +kernel
theorem dX6_greatest_5 : decode cX6_greatest 5 = .ok (.astore_n 3, 1) := by decide +kernel
theorem dX6_greatest_6 : decode cX6_greatest 6 = .ok (.iload_n 2, 1) := by decide +kernel
theorem dX6_greatest_7 : decode cX6_greatest 7 = .ok (.invokestatic 133, 3) := by decide +kernel
theorem dX6_greatest_10 : decode cX6_greatest 10 = .ok (.iconst 0, 1) := by decide +kernel
theorem dX6_greatest_11 : decode cX6_greatest 11 = .ok (.istore 4, 2) := by decide +kernel
theorem dX6_greatest_13 : decode cX6_greatest 13 = .ok (.iconst 0, 1) := by decide +kernel
theorem dX6_greatest_14 : decode cX6_greatest 14 = .ok (.istore 5, 2) := by decide +kernel
theorem dX6_greatest_16 : decode cX6_greatest 16 = .ok (.iload 5, 2) := by decide +kernel
theorem dX6_greatest_18 : decode cX6_greatest 18 = .ok (.iload_n 2, 1) := by decide +kernel
theorem dX6_greatest_19 : decode cX6_greatest 19 = .ok (.if_icmp .gt 22, 3) := by decide +kernel
theorem dX6_greatest_22 : decode cX6_greatest 22 = .ok (.iload 4, 2) := by decide +kernel
theorem dX6_greatest_24 : decode cX6_greatest 24 = .ok (.aload_n 3, 1) := by decide +kernel
theorem dX6_greatest_25 : decode cX6_greatest 25 = .ok (.iload 5, 2) := by decide +kernel
theorem dX6_greatest_27 : decode cX6_greatest 27 = .ok (.invokevirtual 143, 3) := by decide +kernel
theorem dX6_greatest_30 : decode cX6_greatest 30 = .ok (.invokestatic 146, 3) := by decide +kernel
theorem dX6_greatest_33 : decode cX6_greatest 33 = .ok (.istore 4, 2) := by decide +kernel
theorem dX6_greatest_35 : decode cX6_greatest 35 = .ok (.iinc 5 1, 3) := by decide +kernel
theorem dX6_greatest_38 : decode cX6_greatest 38 = .ok (.goto (-22), 3) := by decide +kernel
theorem dX6_greatest_41 : decode cX6_greatest 41 = .ok (.iload 4, 2) := by decide +kernel
theorem dX6_greatest_43 : decode cX6_greatest 43 = .ok (.ireturn, 1) := by decide +kernel
theorem dX6_zeros_0 : decode cX6_zeros 0 = .ok (.aload_n 0, 1) := by decide +kernel
theorem dX6_zeros_1 : decode cX6_zeros 1 = .ok (.iload_n 1, 1) := by decide +kernel
theorem dX6_zeros_2 : decode cX6_zeros 2 = .ok (.invokevirtual 124, 3) := by decide +kernel
theorem dX6_zeros_5 : decode cX6_zeros 5 = .ok (.astore_n 3, 1) := by decide +kernel
theorem dX6_zeros_6 : decode cX6_zeros 6 = .ok (.iload_n 2, 1) := by decide +kernel
theorem dX6_zeros_7 : decode cX6_zeros 7 = .ok (.invokestatic 133, 3) := by decide +kernel
theorem dX6_zeros_10 : decode cX6_zeros 10 = .ok (.iconst 0, 1) := by decide +kernel
theorem dX6_zeros_11 : decode cX6_zeros 11 = .ok (.istore 4, 2) := by decide +kernel
theorem dX6_zeros_13 : decode cX6_zeros 13 = .ok (.iconst 0, 1) := by decide +kernel
theorem dX6_zeros_14 : decode cX6_zeros 14 = .ok (.istore 5, 2) := by decide +kernel
theorem dX6_zeros_16 : decode cX6_zeros 16 = .ok (.iload 5, 2) := by decide +kernel
theorem dX6_zeros_18 : decode cX6_zeros 18 = .ok (.iload_n 2, 1) := by decide +kernel
theorem dX6_zeros_19 : decode cX6_zeros 19 = .ok (.if_icmp .gt 21, 3) := by decide +kernel
theorem dX6_zeros_22 : decode cX6_zeros 22 = .ok (.aload_n 3, 1) := by decide +kernel
theorem dX6_zeros_23 : decode cX6_zeros 23 = .ok (.iload 5, 2) := by decide +kernel
theorem dX6_zeros_25 : decode cX6_zeros 25 = .ok (.invokevirtual 143, 3) := by decide +kernel
theorem dX6_zeros_28 : decode cX6_zeros 28 = .ok (.ifCond .ne 6, 3) := by decide +kernel
theorem dX6_zeros_31 : decode cX6_zeros 31 = .ok (.iinc 4 1, 3) := by decide +kernel
theorem dX6_zeros_34 : decode cX6_zeros 34 = .ok (.iinc 5 1, 3) := by decide +kernel
theorem dX6_zeros_37 : decode cX6_zeros 37 = .ok (.goto (-21), 3) := by decide +kernel
theorem dX6_zeros_40 : decode cX6_zeros 40 = .ok (.iload 4, 2) := by decide +kernel
theorem dX6_zeros_42 : decode cX6_zeros 42 = .ok (.i2d, 1) := by decide +kernel
theorem dX6_zeros_43 : decode cX6_zeros 43 = .ok (.iload_n 2, 1) := by decide +kernel
theorem dX6_zeros_44 : decode cX6_zeros 44 = .ok (.iconst 1, 1) := by decide +kernel
theorem dX6_zeros_45 : decode cX6_zeros 45 = .ok (.iadd, 1) := by decide +kernel
theorem dX6_zeros_46 : decode cX6_zeros 46 = .ok (.i2d, 1) := by decide +kernel
theorem dX6_zeros_47 : decode cX6_zeros 47 = .ok (.ddiv, 1) := by decide +kernel
theorem dX6_zeros_48 : decode cX6_zeros 48 = .ok (.dreturn, 1) := by decide +kernel
theorem dX6_period_0 : decode cX6_period 0 = .ok (.aload_n 0, 1) := by decide +kernel
theorem dX6_period_1 : decode cX6_period 1 = .ok (.iload_n 1, 1) := by decide +kernel
theorem dX6_period_2 : decode cX6_period 2 = .ok (.invokevirtual 124, 3) := by decide +kernel
theorem dX6_period_5 : decode cX6_period 5 = .ok (.astore_n 3, 1) := by decide +kernel
theorem dX6_period_6 : decode cX6_period 6 = .ok (.iload_n 2, 1) := by decide +kernel
theorem dX6_period_7 : decode cX6_period 7 = .ok (.invokestatic 133, 3) := by decide +kernel
theorem dX6_period_10 : decode cX6_period 10 = .ok (.aload_n 3, 1) := by decide +kernel
theorem dX6_period_11 : decode cX6_period 11 = .ok (.iload_n 2, 1) := by decide +kernel
theorem dX6_period_12 : decode cX6_period 12 = .ok (.invokevirtual 152, 3) := by decide +kernel
theorem dX6_period_15 : decode cX6_period 15 = .ok (.ireturn, 1) := by decide +kernel
theorem dX6_start_0 : decode cX6_start 0 = .ok (.aload_n 0, 1) := by decide +kernel
theorem dX6_start_1 : decode cX6_start 1 = .ok (.iload_n 1, 1) := by decide +kernel
theorem dX6_start_2 : decode cX6_start 2 = .ok (.invokevirtual 124, 3) := by decide +kernel
theorem dX6_start_5 : decode cX6_start 5 = .ok (.astore_n 3, 1) := by decide +kernel
theorem dX6_start_6 : decode cX6_start 6 = .ok (.iload_n 2, 1) := by decide +kernel
theorem dX6_start_7 : decode cX6_start 7 = .ok (.invokestatic 133, 3) := by decide +kernel
theorem dX6_start_10 : decode cX6_start 10 = .ok (.aload_n 3, 1) := by decide +kernel
theorem dX6_start_11 : decode cX6_start 11 = .ok (.iload_n 2, 1) := by decide +kernel
theorem dX6_start_12 : decode cX6_start 12 = .ok (.invokevirtual 152, 3) := by decide +kernel
theorem dX6_start_15 : decode cX6_start 15 = .ok (.istore 4, 2) := by decide +kernel
theorem dX6_start_17 : decode cX6_start 17 = .ok (.iload 4, 2) := by decide +kernel
theorem dX6_start_19 : decode cX6_start 19 = .ok (.iconst (-1), 1) := by decide +kernel
theorem dX6_start_20 : decode cX6_start 20 = .ok (.if_icmp .ne 7, 3) := by decide +kernel
theorem dX6_start_23 : decode cX6_start 23 = .ok (.iconst (-1), 1) := by decide +kernel
theorem dX6_start_24 : decode cX6_start 24 = .ok (.goto 10, 3) := by decide +kernel
theorem dX6_start_27 : decode cX6_start 27 = .ok (.aload_n 3, 1) := by decide +kernel
theorem dX6_start_28 : decode cX6_start 28 = .ok (.iload 4, 2) := by decide +kernel
theorem dX6_start_30 : decode cX6_start 30 = .ok (.iload_n 2, 1) := by decide +kernel
theorem dX6_start_31 : decode cX6_start 31 = .ok (.invokevirtual 155, 3) := by decide +kernel
theorem dX6_start_34 : decode cX6_start 34 = .ok (.ireturn, 1) := by decide +kernel
theorem dX6_isProved_0 : decode cX6_isProved 0 = .ok (.aload_n 0, 1) := by decide +kernel
theorem dX6_isProved_1 : decode cX6_isProved 1 = .ok (.iload_n 1, 1) := by decide +kernel
theorem dX6_isProved_2 : decode cX6_isProved 2 = .ok (.invokevirtual 124, 3) := by decide +kernel
theorem dX6_isProved_5 : decode cX6_isProved 5 = .ok (.astore_n 3, 1) := by decide +kernel
theorem dX6_isProved_6 : decode cX6_isProved 6 = .ok (.iload_n 2, 1) := by decide +kernel
theorem dX6_isProved_7 : decode cX6_isProved 7 = .ok (.invokestatic 133, 3) := by decide +kernel
theorem dX6_isProved_10 : decode cX6_isProved 10 = .ok (.aload_n 3, 1) := by decide +kernel
theorem dX6_isProved_11 : decode cX6_isProved 11 = .ok (.iload_n 2, 1) := by decide +kernel
theorem dX6_isProved_12 : decode cX6_isProved 12 = .ok (.invokevirtual 152, 3) := by decide +kernel
theorem dX6_isProved_15 : decode cX6_isProved 15 = .ok (.istore 4, 2) := by decide +kernel
theorem dX6_isProved_17 : decode cX6_isProved 17 = .ok (.iload 4, 2) := by decide +kernel
theorem dX6_isProved_19 : decode cX6_isProved 19 = .ok (.iconst (-1), 1) := by decide +kernel
theorem dX6_isProved_20 : decode cX6_isProved 20 = .ok (.if_icmp .eq 10, 3) := by decide +kernel
theorem dX6_isProved_23 : decode cX6_isProved 23 = .ok (.aload_n 3, 1) := by decide +kernel
theorem dX6_isProved_24 : decode cX6_isProved 24 = .ok (.getfield 128, 3) := by decide +kernel
theorem dX6_isProved_27 : decode cX6_isProved 27 = .ok (.ifCond .eq 5, 3) := by decide +kernel
theorem dX6_isProved_30 : decode cX6_isProved 30 = .ok (.iconst 0, 1) := by decide +kernel
theorem dX6_isProved_31 : decode cX6_isProved 31 = .ok (.ireturn, 1) := by decide +kernel
theorem dX6_isProved_32 : decode cX6_isProved 32 = .ok (.iload_n 2, 1) := by decide +kernel
theorem dX6_isProved_33 : decode cX6_isProved 33 = .ok (.iload 4, 2) := by decide +kernel
theorem dX6_isProved_35 : decode cX6_isProved 35 = .ok (.isub, 1) := by decide +kernel
theorem dX6_isProved_36 : decode cX6_isProved 36 = .ok (.aload_n 3, 1) := by decide +kernel
theorem dX6_isProved_37 : decode cX6_isProved 37 = .ok (.iload 4, 2) := by decide +kernel
theorem dX6_isProved_39 : decode cX6_isProved 39 = .ok (.iload_n 2, 1) := by decide +kernel
theorem dX6_isProved_40 : decode cX6_isProved 40 = .ok (.invokevirtual 155, 3) := by decide +kernel
theorem dX6_isProved_43 : decode cX6_isProved 43 = .ok (.isub, 1) := by decide +kernel
theorem dX6_isProved_44 : decode cX6_isProved 44 = .ok (.iconst 1, 1) := by decide +kernel
theorem dX6_isProved_45 : decode cX6_isProved 45 = .ok (.iadd, 1) := by decide +kernel
theorem dX6_isProved_46 : decode cX6_isProved 46 = .ok (.aload_n 3, 1) := by decide +kernel
theorem dX6_isProved_47 : decode cX6_isProved 47 = .ok (.invokevirtual 158, 3) := by decide +kernel
theorem dX6_isProved_50 : decode cX6_isProved 50 = .ok (.if_icmp .lt 7, 3) := by decide +kernel
theorem dX6_isProved_53 : decode cX6_isProved 53 = .ok (.iconst 1, 1) := by decide +kernel
theorem dX6_isProved_54 : decode cX6_isProved 54 = .ok (.goto 4, 3) := by decide +kernel
theorem dX6_isProved_57 : decode cX6_isProved 57 = .ok (.iconst 0, 1) := by decide +kernel
theorem dX6_isProved_58 : decode cX6_isProved 58 = .ok (.ireturn, 1) := by decide +kernel
theorem dX6_requireRule_0 : decode cX6_requireRule 0 = .ok (.iload_n 1, 1) := by decide +kernel
theorem dX6_requireRule_1 : decode cX6_requireRule 1 = .ok (.ifCond .lt 14, 3) := by decide +kernel
theorem dX6_requireRule_4 : decode cX6_requireRule 4 = .ok (.iload_n 1, 1) := by decide +kernel
theorem dX6_requireRule_5 : decode cX6_requireRule 5 = .ok (.aload_n 0, 1) := by decide +kernel
theorem dX6_requireRule_6 : decode cX6_requireRule 6 = .ok (.getfield 12, 3) := by decide +kernel
theorem dX6_requireRule_9 : decode cX6_requireRule 9 = .ok (.getfield 82, 3) := by decide +kernel
theorem dX6_requireRule_12 : decode cX6_requireRule 12 = .ok (.if_icmp .lt 13, 3) := by decide +kernel
theorem dX6_requireRule_15 : decode cX6_requireRule 15 = .ok (.new 161, 3) := by decide +kernel
theorem dX6_requireRule_18 : decode cX6_requireRule 18 = .ok (.dup, 1) := by decide +kernel
theorem dX6_requireRule_19 : decode cX6_requireRule 19 = .ok (.ldc 163, 2) := by decide +kernel
theorem dX6_requireRule_21 : decode cX6_requireRule 21 = .ok (.invokespecial 165, 3) := by decide +kernel
theorem dX6_requireRule_24 : decode cX6_requireRule 24 = .ok (.athrow, 1) := by decide +kernel
theorem dX6_requireRule_25 : decode cX6_requireRule 25 = .ok (.aload_n 0, 1) := by decide +kernel
theorem dX6_requireRule_26 : decode cX6_requireRule 26 = .ok (.getfield 12, 3) := by decide +kernel
theorem dX6_requireRule_29 : decode cX6_requireRule 29 = .ok (.iload_n 1, 1) := by decide +kernel
theorem dX6_requireRule_30 : decode cX6_requireRule 30 = .ok (.invokevirtual 166, 3) := by decide +kernel
theorem dX6_requireRule_33 : decode cX6_requireRule 33 = .ok (.areturn, 1) := by decide +kernel
theorem dX6_requireCounters_0 : decode cX6_requireCounters 0 = .ok (.iload_n 0, 1) := by decide +kernel
theorem dX6_requireCounters_1 : decode cX6_requireCounters 1 = .ok (.ifCond .lt 10, 3) := by decide +kernel
theorem dX6_requireCounters_4 : decode cX6_requireCounters 4 = .ok (.iload_n 0, 1) := by decide +kernel
theorem dX6_requireCounters_5 : decode cX6_requireCounters 5 = .ok (.sipush 300, 3) := by decide +kernel
theorem dX6_requireCounters_8 : decode cX6_requireCounters 8 = .ok (.if_icmp .le 13, 3) := by decide +kernel
theorem dX6_requireCounters_11 : decode cX6_requireCounters 11 = .ok (.new 56, 3) := by decide +kernel
theorem dX6_requireCounters_14 : decode cX6_requireCounters 14 = .ok (.dup, 1) := by decide +kernel
theorem dX6_requireCounters_15 : decode cX6_requireCounters 15 = .ok (.ldc 169, 2) := by decide +kernel
theorem dX6_requireCounters_17 : decode cX6_requireCounters 17 = .ok (.invokespecial 60, 3) := by decide +kernel
theorem dX6_requireCounters_20 : decode cX6_requireCounters 20 = .ok (.athrow, 1) := by decide +kernel
theorem dX6_requireCounters_21 : decode cX6_requireCounters 21 = .ok (.return_, 1) := by decide +kernel
theorem dX6_heap_0 : decode cX6_heap 0 = .ok (.aload_n 0, 1) := by decide +kernel
theorem dX6_heap_1 : decode cX6_heap 1 = .ok (.iload_n 1, 1) := by decide +kernel
theorem dX6_heap_2 : decode cX6_heap 2 = .ok (.invokevirtual 171, 3) := by decide +kernel
theorem dX6_heap_5 : decode cX6_heap 5 = .ok (.aload_n 0, 1) := by decide +kernel
theorem dX6_heap_6 : decode cX6_heap 6 = .ok (.iload_n 1, 1) := by decide +kernel
theorem dX6_heap_7 : decode cX6_heap 7 = .ok (.invokevirtual 174, 3) := by decide +kernel
theorem dX6_heap_10 : decode cX6_heap 10 = .ok (.istore_n 3, 1) := by decide +kernel
theorem dX6_heap_11 : decode cX6_heap 11 = .ok (.iload_n 2, 1) := by decide +kernel
theorem dX6_heap_12 : decode cX6_heap 12 = .ok (.tableswitch 75 0 3 #[32, 47, 49, 62], 32) := by decide +kernel
theorem dX6_heap_44 : decode cX6_heap 44 = .ok (.aload_n 0, 1) := by decide +kernel
theorem dX6_heap_45 : decode cX6_heap 45 = .ok (.getfield 12, 3) := by decide +kernel
theorem dX6_heap_48 : decode cX6_heap 48 = .ok (.getfield 85, 3) := by decide +kernel
theorem dX6_heap_51 : decode cX6_heap 51 = .ok (.getfield 177, 3) := by decide +kernel
theorem dX6_heap_54 : decode cX6_heap 54 = .ok (.iload_n 1, 1) := by decide +kernel
theorem dX6_heap_55 : decode cX6_heap 55 = .ok (.invokestatic 180, 3) := by decide +kernel
theorem dX6_heap_58 : decode cX6_heap 58 = .ok (.ireturn, 1) := by decide +kernel
theorem dX6_heap_59 : decode cX6_heap 59 = .ok (.iload_n 3, 1) := by decide +kernel
theorem dX6_heap_60 : decode cX6_heap 60 = .ok (.ireturn, 1) := by decide +kernel
theorem dX6_heap_61 : decode cX6_heap 61 = .ok (.aload_n 0, 1) := by decide +kernel
theorem dX6_heap_62 : decode cX6_heap 62 = .ok (.getfield 12, 3) := by decide +kernel
theorem dX6_heap_65 : decode cX6_heap 65 = .ok (.iload_n 1, 1) := by decide +kernel
theorem dX6_heap_66 : decode cX6_heap 66 = .ok (.invokevirtual 183, 3) := by decide +kernel
theorem dX6_heap_69 : decode cX6_heap 69 = .ok (.iload_n 3, 1) := by decide +kernel
theorem dX6_heap_70 : decode cX6_heap 70 = .ok (.invokevirtual 143, 3) := by decide +kernel
theorem dX6_heap_73 : decode cX6_heap 73 = .ok (.ireturn, 1) := by decide +kernel
theorem dX6_heap_74 : decode cX6_heap 74 = .ok (.aload_n 0, 1) := by decide +kernel
theorem dX6_heap_75 : decode cX6_heap 75 = .ok (.getfield 12, 3) := by decide +kernel
theorem dX6_heap_78 : decode cX6_heap 78 = .ok (.iload_n 1, 1) := by decide +kernel
theorem dX6_heap_79 : decode cX6_heap 79 = .ok (.invokevirtual 183, 3) := by decide +kernel
theorem dX6_heap_82 : decode cX6_heap 82 = .ok (.iload_n 3, 1) := by decide +kernel
theorem dX6_heap_83 : decode cX6_heap 83 = .ok (.invokevirtual 140, 3) := by decide +kernel
theorem dX6_heap_86 : decode cX6_heap 86 = .ok (.ireturn, 1) := by decide +kernel
theorem dX6_heap_87 : decode cX6_heap 87 = .ok (.new 56, 3) := by decide +kernel
theorem dX6_heap_90 : decode cX6_heap 90 = .ok (.dup, 1) := by decide +kernel
theorem dX6_heap_91 : decode cX6_heap 91 = .ok (.ldc 119, 2) := by decide +kernel
theorem dX6_heap_93 : decode cX6_heap 93 = .ok (.invokespecial 60, 3) := by decide +kernel
theorem dX6_heap_96 : decode cX6_heap 96 = .ok (.athrow, 1) := by decide +kernel
theorem dX6_nimSum_0 : decode cX6_nimSum 0 = .ok (.iconst 0, 1) := by decide +kernel
theorem dX6_nimSum_1 : decode cX6_nimSum 1 = .ok (.istore_n 1, 1) := by decide +kernel
theorem dX6_nimSum_2 : decode cX6_nimSum 2 = .ok (.iconst 0, 1) := by decide +kernel
theorem dX6_nimSum_3 : decode cX6_nimSum 3 = .ok (.istore_n 2, 1) := by decide +kernel
theorem dX6_nimSum_4 : decode cX6_nimSum 4 = .ok (.iload_n 2, 1) := by decide +kernel
theorem dX6_nimSum_5 : decode cX6_nimSum 5 = .ok (.aload_n 0, 1) := by decide +kernel
theorem dX6_nimSum_6 : decode cX6_nimSum 6 = .ok (.getfield 12, 3) := by decide +kernel
theorem dX6_nimSum_9 : decode cX6_nimSum 9 = .ok (.getfield 85, 3) := by decide +kernel
theorem dX6_nimSum_12 : decode cX6_nimSum 12 = .ok (.getfield 89, 3) := by decide +kernel
theorem dX6_nimSum_15 : decode cX6_nimSum 15 = .ok (.if_icmp .ge 28, 3) := by decide +kernel
theorem dX6_nimSum_18 : decode cX6_nimSum 18 = .ok (.iload_n 1, 1) := by decide +kernel
theorem dX6_nimSum_19 : decode cX6_nimSum 19 = .ok (.aload_n 0, 1) := by decide +kernel
theorem dX6_nimSum_20 : decode cX6_nimSum 20 = .ok (.getfield 12, 3) := by decide +kernel
theorem dX6_nimSum_23 : decode cX6_nimSum 23 = .ok (.iload_n 2, 1) := by decide +kernel
theorem dX6_nimSum_24 : decode cX6_nimSum 24 = .ok (.invokevirtual 183, 3) := by decide +kernel
theorem dX6_nimSum_27 : decode cX6_nimSum 27 = .ok (.aload_n 0, 1) := by decide +kernel
theorem dX6_nimSum_28 : decode cX6_nimSum 28 = .ok (.iload_n 2, 1) := by decide +kernel
theorem dX6_nimSum_29 : decode cX6_nimSum 29 = .ok (.invokevirtual 174, 3) := by decide +kernel
theorem dX6_nimSum_32 : decode cX6_nimSum 32 = .ok (.invokevirtual 143, 3) := by decide +kernel
theorem dX6_nimSum_35 : decode cX6_nimSum 35 = .ok (.ixor, 1) := by decide +kernel
theorem dX6_nimSum_36 : decode cX6_nimSum 36 = .ok (.istore_n 1, 1) := by decide +kernel
theorem dX6_nimSum_37 : decode cX6_nimSum 37 = .ok (.iinc 2 1, 3) := by decide +kernel
theorem dX6_nimSum_40 : decode cX6_nimSum 40 = .ok (.goto (-36), 3) := by decide +kernel
theorem dX6_nimSum_43 : decode cX6_nimSum 43 = .ok (.iload_n 1, 1) := by decide +kernel
theorem dX6_nimSum_44 : decode cX6_nimSum 44 = .ok (.ireturn, 1) := by decide +kernel
theorem dX6_positionValue_0 : decode cX6_positionValue 0 = .ok (.aload_n 0, 1) := by decide +kernel
theorem dX6_positionValue_1 : decode cX6_positionValue 1 = .ok (.invokevirtual 186, 3) := by decide +kernel
theorem dX6_positionValue_4 : decode cX6_positionValue 4 = .ok (.aload_n 0, 1) := by decide +kernel
theorem dX6_positionValue_5 : decode cX6_positionValue 5 = .ok (.getfield 26, 3) := by decide +kernel
theorem dX6_positionValue_8 : decode cX6_positionValue 8 = .ok (.aload_n 0, 1) := by decide +kernel
theorem dX6_positionValue_9 : decode cX6_positionValue 9 = .ok (.getfield 12, 3) := by decide +kernel
theorem dX6_positionValue_12 : decode cX6_positionValue 12 = .ok (.getfield 85, 3) := by decide +kernel
theorem dX6_positionValue_15 : decode cX6_positionValue 15 = .ok (.getfield 92, 3) := by decide +kernel
theorem dX6_positionValue_18 : decode cX6_positionValue 18 = .ok (.invokevirtual 189, 3) := by decide +kernel
theorem dX6_positionValue_21 : decode cX6_positionValue 21 = .ok (.ireturn, 1) := by decide +kernel
theorem dX6_isWon_0 : decode cX6_isWon 0 = .ok (.aload_n 0, 1) := by decide +kernel
theorem dX6_isWon_1 : decode cX6_isWon 1 = .ok (.invokevirtual 186, 3) := by decide +kernel
theorem dX6_isWon_4 : decode cX6_isWon 4 = .ok (.aload_n 0, 1) := by decide +kernel
theorem dX6_isWon_5 : decode cX6_isWon 5 = .ok (.getfield 26, 3) := by decide +kernel
theorem dX6_isWon_8 : decode cX6_isWon 8 = .ok (.aload_n 0, 1) := by decide +kernel
theorem dX6_isWon_9 : decode cX6_isWon 9 = .ok (.getfield 12, 3) := by decide +kernel
theorem dX6_isWon_12 : decode cX6_isWon 12 = .ok (.getfield 85, 3) := by decide +kernel
theorem dX6_isWon_15 : decode cX6_isWon 15 = .ok (.getfield 92, 3) := by decide +kernel
theorem dX6_isWon_18 : decode cX6_isWon 18 = .ok (.invokevirtual 192, 3) := by decide +kernel
theorem dX6_isWon_21 : decode cX6_isWon 21 = .ok (.ireturn, 1) := by decide +kernel
theorem dX6_length_0 : decode cX6_length 0 = .ok (.aload_n 0, 1) := by decide +kernel
theorem dX6_length_1 : decode cX6_length 1 = .ok (.invokevirtual 186, 3) := by decide +kernel
theorem dX6_length_4 : decode cX6_length 4 = .ok (.aload_n 0, 1) := by decide +kernel
theorem dX6_length_5 : decode cX6_length 5 = .ok (.getfield 26, 3) := by decide +kernel
theorem dX6_length_8 : decode cX6_length 8 = .ok (.aload_n 0, 1) := by decide +kernel
theorem dX6_length_9 : decode cX6_length 9 = .ok (.getfield 12, 3) := by decide +kernel
theorem dX6_length_12 : decode cX6_length 12 = .ok (.getfield 85, 3) := by decide +kernel
theorem dX6_length_15 : decode cX6_length 15 = .ok (.getfield 92, 3) := by decide +kernel
theorem dX6_length_18 : decode cX6_length 18 = .ok (.invokevirtual 195, 3) := by decide +kernel
theorem dX6_length_21 : decode cX6_length 21 = .ok (.ireturn, 1) := by decide +kernel
theorem dX6_moves_0 : decode cX6_moves 0 = .ok (.aload_n 0, 1) := by decide +kernel
theorem dX6_moves_1 : decode cX6_moves 1 = .ok (.invokevirtual 121, 3) := by decide +kernel
theorem dX6_moves_4 : decode cX6_moves 4 = .ok (.ireturn, 1) := by decide +kernel
theorem dX6_move_0 : decode cX6_move 0 = .ok (.iload_n 1, 1) := by decide +kernel
theorem dX6_move_1 : decode cX6_move 1 = .ok (.ifCond .lt 11, 3) := by decide +kernel
theorem dX6_move_4 : decode cX6_move 4 = .ok (.iload_n 1, 1) := by decide +kernel
theorem dX6_move_5 : decode cX6_move 5 = .ok (.aload_n 0, 1) := by decide +kernel
theorem dX6_move_6 : decode cX6_move 6 = .ok (.invokevirtual 121, 3) := by decide +kernel
theorem dX6_move_9 : decode cX6_move 9 = .ok (.if_icmp .lt 13, 3) := by decide +kernel
theorem dX6_move_12 : decode cX6_move 12 = .ok (.new 161, 3) := by decide +kernel
theorem dX6_move_15 : decode cX6_move 15 = .ok (.dup, 1) := by decide +kernel
theorem dX6_move_16 : decode cX6_move 16 = .ok (.ldc 198, 2) := by decide +kernel
theorem dX6_move_18 : decode cX6_move 18 = .ok (.invokespecial 165, 3) := by decide +kernel
theorem dX6_move_21 : decode cX6_move 21 = .ok (.athrow, 1) := by decide +kernel
theorem dX6_move_22 : decode cX6_move 22 = .ok (.iload_n 2, 1) := by decide +kernel
theorem dX6_move_23 : decode cX6_move 23 = .ok (.ifCond .lt 9, 3) := by decide +kernel
theorem dX6_move_26 : decode cX6_move 26 = .ok (.iload_n 2, 1) := by decide +kernel
theorem dX6_move_27 : decode cX6_move 27 = .ok (.bipush 6, 2) := by decide +kernel
theorem dX6_move_29 : decode cX6_move 29 = .ok (.if_icmp .le 13, 3) := by decide +kernel
theorem dX6_move_32 : decode cX6_move 32 = .ok (.new 56, 3) := by decide +kernel
theorem dX6_move_35 : decode cX6_move 35 = .ok (.dup, 1) := by decide +kernel
theorem dX6_move_36 : decode cX6_move 36 = .ok (.ldc 119, 2) := by decide +kernel
theorem dX6_move_38 : decode cX6_move 38 = .ok (.invokespecial 60, 3) := by decide +kernel
theorem dX6_move_41 : decode cX6_move 41 = .ok (.athrow, 1) := by decide +kernel
theorem dX6_move_42 : decode cX6_move 42 = .ok (.aload_n 0, 1) := by decide +kernel
theorem dX6_move_43 : decode cX6_move 43 = .ok (.getfield 26, 3) := by decide +kernel
theorem dX6_move_46 : decode cX6_move 46 = .ok (.iload_n 1, 1) := by decide +kernel
theorem dX6_move_47 : decode cX6_move 47 = .ok (.invokevirtual 200, 3) := by decide +kernel
theorem dX6_move_50 : decode cX6_move 50 = .ok (.istore_n 3, 1) := by decide +kernel
theorem dX6_move_51 : decode cX6_move 51 = .ok (.iload_n 2, 1) := by decide +kernel
theorem dX6_move_52 : decode cX6_move 52 = .ok (.iconst 3, 1) := by decide +kernel
theorem dX6_move_53 : decode cX6_move 53 = .ok (.if_icmp .gt 20, 3) := by decide +kernel
theorem dX6_move_56 : decode cX6_move 56 = .ok (.aload_n 0, 1) := by decide +kernel
theorem dX6_move_57 : decode cX6_move 57 = .ok (.getfield 12, 3) := by decide +kernel
theorem dX6_move_60 : decode cX6_move 60 = .ok (.getfield 85, 3) := by decide +kernel
theorem dX6_move_63 : decode cX6_move 63 = .ok (.getfield 92, 3) := by decide +kernel
theorem dX6_move_66 : decode cX6_move 66 = .ok (.iload_n 3, 1) := by decide +kernel
theorem dX6_move_67 : decode cX6_move 67 = .ok (.isub, 1) := by decide +kernel
theorem dX6_move_68 : decode cX6_move 68 = .ok (.iload_n 2, 1) := by decide +kernel
theorem dX6_move_69 : decode cX6_move 69 = .ok (.invokestatic 203, 3) := by decide +kernel
theorem dX6_move_72 : decode cX6_move 72 = .ok (.ireturn, 1) := by decide +kernel
theorem dX6_move_73 : decode cX6_move 73 = .ok (.aload_n 0, 1) := by decide +kernel
theorem dX6_move_74 : decode cX6_move 74 = .ok (.invokevirtual 186, 3) := by decide +kernel
theorem dX6_move_77 : decode cX6_move 77 = .ok (.iload_n 2, 1) := by decide +kernel
theorem dX6_move_78 : decode cX6_move 78 = .ok (.lookupswitch 52 #[(4, 26), (5, 35)], 26) := by decide +kernel
theorem dX6_move_104 : decode cX6_move 104 = .ok (.aload_n 0, 1) := by decide +kernel
theorem dX6_move_105 : decode cX6_move 105 = .ok (.getfield 26, 3) := by decide +kernel
theorem dX6_move_108 : decode cX6_move 108 = .ok (.iload_n 3, 1) := by decide +kernel
theorem dX6_move_109 : decode cX6_move 109 = .ok (.invokevirtual 189, 3) := by decide +kernel
theorem dX6_move_112 : decode cX6_move 112 = .ok (.ireturn, 1) := by decide +kernel
theorem dX6_move_113 : decode cX6_move 113 = .ok (.aload_n 0, 1) := by decide +kernel
theorem dX6_move_114 : decode cX6_move 114 = .ok (.getfield 26, 3) := by decide +kernel
theorem dX6_move_117 : decode cX6_move 117 = .ok (.iload_n 3, 1) := by decide +kernel
theorem dX6_move_118 : decode cX6_move 118 = .ok (.invokevirtual 192, 3) := by decide +kernel
theorem dX6_move_121 : decode cX6_move 121 = .ok (.ifCond .eq 7, 3) := by decide +kernel
theorem dX6_move_124 : decode cX6_move 124 = .ok (.iconst 0, 1) := by decide +kernel
theorem dX6_move_125 : decode cX6_move 125 = .ok (.goto 4, 3) := by decide +kernel
theorem dX6_move_128 : decode cX6_move 128 = .ok (.iconst 1, 1) := by decide +kernel
theorem dX6_move_129 : decode cX6_move 129 = .ok (.ireturn, 1) := by decide +kernel
theorem dX6_move_130 : decode cX6_move 130 = .ok (.aload_n 0, 1) := by decide +kernel
theorem dX6_move_131 : decode cX6_move 131 = .ok (.getfield 26, 3) := by decide +kernel
theorem dX6_move_134 : decode cX6_move 134 = .ok (.iload_n 3, 1) := by decide +kernel
theorem dX6_move_135 : decode cX6_move 135 = .ok (.invokevirtual 195, 3) := by decide +kernel
theorem dX6_move_138 : decode cX6_move 138 = .ok (.ireturn, 1) := by decide +kernel
theorem dX6_winning_0 : decode cX6_winning 0 = .ok (.aload_n 0, 1) := by decide +kernel
theorem dX6_winning_1 : decode cX6_winning 1 = .ok (.invokevirtual 186, 3) := by decide +kernel
theorem dX6_winning_4 : decode cX6_winning 4 = .ok (.aload_n 0, 1) := by decide +kernel
theorem dX6_winning_5 : decode cX6_winning 5 = .ok (.invokevirtual 121, 3) := by decide +kernel
theorem dX6_winning_8 : decode cX6_winning 8 = .ok (.istore_n 1, 1) := by decide +kernel
theorem dX6_winning_9 : decode cX6_winning 9 = .ok (.iconst 0, 1) := by decide +kernel
theorem dX6_winning_10 : decode cX6_winning 10 = .ok (.istore_n 2, 1) := by decide +kernel
theorem dX6_winning_11 : decode cX6_winning 11 = .ok (.iconst 0, 1) := by decide +kernel
theorem dX6_winning_12 : decode cX6_winning 12 = .ok (.istore_n 3, 1) := by decide +kernel
theorem dX6_winning_13 : decode cX6_winning 13 = .ok (.iload_n 3, 1) := by decide +kernel
theorem dX6_winning_14 : decode cX6_winning 14 = .ok (.iload_n 1, 1) := by decide +kernel
theorem dX6_winning_15 : decode cX6_winning 15 = .ok (.if_icmp .ge 30, 3) := by decide +kernel
theorem dX6_winning_18 : decode cX6_winning 18 = .ok (.aload_n 0, 1) := by decide +kernel
theorem dX6_winning_19 : decode cX6_winning 19 = .ok (.getfield 26, 3) := by decide +kernel
theorem dX6_winning_22 : decode cX6_winning 22 = .ok (.aload_n 0, 1) := by decide +kernel
theorem dX6_winning_23 : decode cX6_winning 23 = .ok (.getfield 26, 3) := by decide +kernel
theorem dX6_winning_26 : decode cX6_winning 26 = .ok (.iload_n 3, 1) := by decide +kernel
theorem dX6_winning_27 : decode cX6_winning 27 = .ok (.invokevirtual 200, 3) := by decide +kernel
theorem dX6_winning_30 : decode cX6_winning 30 = .ok (.invokevirtual 192, 3) := by decide +kernel
theorem dX6_winning_33 : decode cX6_winning 33 = .ok (.ifCond .ne 6, 3) := by decide +kernel
theorem dX6_winning_36 : decode cX6_winning 36 = .ok (.iinc 2 1, 3) := by decide +kernel
theorem dX6_winning_39 : decode cX6_winning 39 = .ok (.iinc 3 1, 3) := by decide +kernel
theorem dX6_winning_42 : decode cX6_winning 42 = .ok (.goto (-29), 3) := by decide +kernel
theorem dX6_winning_45 : decode cX6_winning 45 = .ok (.iload_n 2, 1) := by decide +kernel
theorem dX6_winning_46 : decode cX6_winning 46 = .ok (.ireturn, 1) := by decide +kernel
theorem dX6_best_0 : decode cX6_best 0 = .ok (.aload_n 0, 1) := by decide +kernel
theorem dX6_best_1 : decode cX6_best 1 = .ok (.invokevirtual 186, 3) := by decide +kernel
theorem dX6_best_4 : decode cX6_best 4 = .ok (.aload_n 0, 1) := by decide +kernel
theorem dX6_best_5 : decode cX6_best 5 = .ok (.invokevirtual 206, 3) := by decide +kernel
theorem dX6_best_8 : decode cX6_best 8 = .ok (.ireturn, 1) := by decide +kernel
theorem dX6_findBest_0 : decode cX6_findBest 0 = .ok (.aload_n 0, 1) := by decide +kernel
theorem dX6_findBest_1 : decode cX6_findBest 1 = .ok (.invokevirtual 121, 3) := by decide +kernel
theorem dX6_findBest_4 : decode cX6_findBest 4 = .ok (.istore_n 1, 1) := by decide +kernel
theorem dX6_findBest_5 : decode cX6_findBest 5 = .ok (.iconst (-1), 1) := by decide +kernel
theorem dX6_findBest_6 : decode cX6_findBest 6 = .ok (.istore_n 2, 1) := by decide +kernel
theorem dX6_findBest_7 : decode cX6_findBest 7 = .ok (.iconst 0, 1) := by decide +kernel
theorem dX6_findBest_8 : decode cX6_findBest 8 = .ok (.istore_n 3, 1) := by decide +kernel
theorem dX6_findBest_9 : decode cX6_findBest 9 = .ok (.iload_n 3, 1) := by decide +kernel
theorem dX6_findBest_10 : decode cX6_findBest 10 = .ok (.iload_n 1, 1) := by decide +kernel
theorem dX6_findBest_11 : decode cX6_findBest 11 = .ok (.if_icmp .ge 39, 3) := by decide +kernel
theorem dX6_findBest_14 : decode cX6_findBest 14 = .ok (.iload_n 2, 1) := by decide +kernel
theorem dX6_findBest_15 : decode cX6_findBest 15 = .ok (.iconst (-1), 1) := by decide +kernel
theorem dX6_findBest_16 : decode cX6_findBest 16 = .ok (.if_icmp .eq 26, 3) := by decide +kernel
theorem dX6_findBest_19 : decode cX6_findBest 19 = .ok (.aload_n 0, 1) := by decide +kernel
theorem dX6_findBest_20 : decode cX6_findBest 20 = .ok (.aload_n 0, 1) := by decide +kernel
theorem dX6_findBest_21 : decode cX6_findBest 21 = .ok (.getfield 26, 3) := by decide +kernel
theorem dX6_findBest_24 : decode cX6_findBest 24 = .ok (.iload_n 3, 1) := by decide +kernel
theorem dX6_findBest_25 : decode cX6_findBest 25 = .ok (.invokevirtual 200, 3) := by decide +kernel
theorem dX6_findBest_28 : decode cX6_findBest 28 = .ok (.aload_n 0, 1) := by decide +kernel
theorem dX6_findBest_29 : decode cX6_findBest 29 = .ok (.getfield 26, 3) := by decide +kernel
theorem dX6_findBest_32 : decode cX6_findBest 32 = .ok (.iload_n 2, 1) := by decide +kernel
theorem dX6_findBest_33 : decode cX6_findBest 33 = .ok (.invokevirtual 200, 3) := by decide +kernel
theorem dX6_findBest_36 : decode cX6_findBest 36 = .ok (.invokevirtual 209, 3) := by decide +kernel
theorem dX6_findBest_39 : decode cX6_findBest 39 = .ok (.ifCond .eq 5, 3) := by decide +kernel
theorem dX6_findBest_42 : decode cX6_findBest 42 = .ok (.iload_n 3, 1) := by decide +kernel
theorem dX6_findBest_43 : decode cX6_findBest 43 = .ok (.istore_n 2, 1) := by decide +kernel
theorem dX6_findBest_44 : decode cX6_findBest 44 = .ok (.iinc 3 1, 3) := by decide +kernel
theorem dX6_findBest_47 : decode cX6_findBest 47 = .ok (.goto (-38), 3) := by decide +kernel
theorem dX6_findBest_50 : decode cX6_findBest 50 = .ok (.iload_n 2, 1) := by decide +kernel
theorem dX6_findBest_51 : decode cX6_findBest 51 = .ok (.ireturn, 1) := by decide +kernel
theorem dX6_isBetter_0 : decode cX6_isBetter 0 = .ok (.aload_n 0, 1) := by decide +kernel
theorem dX6_isBetter_1 : decode cX6_isBetter 1 = .ok (.getfield 26, 3) := by decide +kernel
theorem dX6_isBetter_4 : decode cX6_isBetter 4 = .ok (.iload_n 1, 1) := by decide +kernel
theorem dX6_isBetter_5 : decode cX6_isBetter 5 = .ok (.invokevirtual 192, 3) := by decide +kernel
theorem dX6_isBetter_8 : decode cX6_isBetter 8 = .ok (.istore_n 3, 1) := by decide +kernel
theorem dX6_isBetter_9 : decode cX6_isBetter 9 = .ok (.iload_n 3, 1) := by decide +kernel
theorem dX6_isBetter_10 : decode cX6_isBetter 10 = .ok (.aload_n 0, 1) := by decide +kernel
theorem dX6_isBetter_11 : decode cX6_isBetter 11 = .ok (.getfield 26, 3) := by decide +kernel
theorem dX6_isBetter_14 : decode cX6_isBetter 14 = .ok (.iload_n 2, 1) := by decide +kernel
theorem dX6_isBetter_15 : decode cX6_isBetter 15 = .ok (.invokevirtual 192, 3) := by decide +kernel
theorem dX6_isBetter_18 : decode cX6_isBetter 18 = .ok (.if_icmp .eq 13, 3) := by decide +kernel
theorem dX6_isBetter_21 : decode cX6_isBetter 21 = .ok (.iload_n 3, 1) := by decide +kernel
theorem dX6_isBetter_22 : decode cX6_isBetter 22 = .ok (.ifCond .ne 7, 3) := by decide +kernel
theorem dX6_isBetter_25 : decode cX6_isBetter 25 = .ok (.iconst 1, 1) := by decide +kernel
theorem dX6_isBetter_26 : decode cX6_isBetter 26 = .ok (.goto 4, 3) := by decide +kernel
theorem dX6_isBetter_29 : decode cX6_isBetter 29 = .ok (.iconst 0, 1) := by decide +kernel
theorem dX6_isBetter_30 : decode cX6_isBetter 30 = .ok (.ireturn, 1) := by decide +kernel
theorem dX6_isBetter_31 : decode cX6_isBetter 31 = .ok (.aload_n 0, 1) := by decide +kernel
theorem dX6_isBetter_32 : decode cX6_isBetter 32 = .ok (.getfield 26, 3) := by decide +kernel
theorem dX6_isBetter_35 : decode cX6_isBetter 35 = .ok (.iload_n 1, 1) := by decide +kernel
theorem dX6_isBetter_36 : decode cX6_isBetter 36 = .ok (.invokevirtual 195, 3) := by decide +kernel
theorem dX6_isBetter_39 : decode cX6_isBetter 39 = .ok (.aload_n 0, 1) := by decide +kernel
theorem dX6_isBetter_40 : decode cX6_isBetter 40 = .ok (.getfield 26, 3) := by decide +kernel
theorem dX6_isBetter_43 : decode cX6_isBetter 43 = .ok (.iload_n 2, 1) := by decide +kernel
theorem dX6_isBetter_44 : decode cX6_isBetter 44 = .ok (.invokevirtual 195, 3) := by decide +kernel
theorem dX6_isBetter_47 : decode cX6_isBetter 47 = .ok (.isub, 1) := by decide +kernel
theorem dX6_isBetter_48 : decode cX6_isBetter 48 = .ok (.istore 4, 2) := by decide +kernel
theorem dX6_isBetter_50 : decode cX6_isBetter 50 = .ok (.iload_n 3, 1) := by decide +kernel
theorem dX6_isBetter_51 : decode cX6_isBetter 51 = .ok (.ifCond .eq 16, 3) := by decide +kernel
theorem dX6_isBetter_54 : decode cX6_isBetter 54 = .ok (.iload 4, 2) := by decide +kernel
theorem dX6_isBetter_56 : decode cX6_isBetter 56 = .ok (.ifCond .le 7, 3) := by decide +kernel
theorem dX6_isBetter_59 : decode cX6_isBetter 59 = .ok (.iconst 1, 1) := by decide +kernel
theorem dX6_isBetter_60 : decode cX6_isBetter 60 = .ok (.goto 17, 3) := by decide +kernel
theorem dX6_isBetter_63 : decode cX6_isBetter 63 = .ok (.iconst 0, 1) := by decide +kernel
theorem dX6_isBetter_64 : decode cX6_isBetter 64 = .ok (.goto 13, 3) := by decide +kernel
theorem dX6_isBetter_67 : decode cX6_isBetter 67 = .ok (.iload 4, 2) := by decide +kernel
theorem dX6_isBetter_69 : decode cX6_isBetter 69 = .ok (.ifCond .ge 7, 3) := by decide +kernel
theorem dX6_isBetter_72 : decode cX6_isBetter 72 = .ok (.iconst 1, 1) := by decide +kernel
theorem dX6_isBetter_73 : decode cX6_isBetter 73 = .ok (.goto 4, 3) := by decide +kernel
theorem dX6_isBetter_76 : decode cX6_isBetter 76 = .ok (.iconst 0, 1) := by decide +kernel
theorem dX6_isBetter_77 : decode cX6_isBetter 77 = .ok (.ireturn, 1) := by decide +kernel
theorem dX6_lostWith_0 : decode cX6_lostWith 0 = .ok (.aload_n 0, 1) := by decide +kernel
theorem dX6_lostWith_1 : decode cX6_lostWith 1 = .ok (.iload_n 1, 1) := by decide +kernel
theorem dX6_lostWith_2 : decode cX6_lostWith 2 = .ok (.invokevirtual 171, 3) := by decide +kernel
theorem dX6_lostWith_5 : decode cX6_lostWith 5 = .ok (.aload_n 0, 1) := by decide +kernel
theorem dX6_lostWith_6 : decode cX6_lostWith 6 = .ok (.getfield 26, 3) := by decide +kernel
theorem dX6_lostWith_9 : decode cX6_lostWith 9 = .ok (.aload_n 0, 1) := by decide +kernel
theorem dX6_lostWith_10 : decode cX6_lostWith 10 = .ok (.getfield 12, 3) := by decide +kernel
theorem dX6_lostWith_13 : decode cX6_lostWith 13 = .ok (.invokevirtual 212, 3) := by decide +kernel
theorem dX6_lostWith_16 : decode cX6_lostWith 16 = .ok (.aload_n 0, 1) := by decide +kernel
theorem dX6_lostWith_17 : decode cX6_lostWith 17 = .ok (.getfield 26, 3) := by decide +kernel
theorem dX6_lostWith_20 : decode cX6_lostWith 20 = .ok (.aload_n 0, 1) := by decide +kernel
theorem dX6_lostWith_21 : decode cX6_lostWith 21 = .ok (.getfield 12, 3) := by decide +kernel
theorem dX6_lostWith_24 : decode cX6_lostWith 24 = .ok (.getfield 85, 3) := by decide +kernel
theorem dX6_lostWith_27 : decode cX6_lostWith 27 = .ok (.getfield 92, 3) := by decide +kernel
theorem dX6_lostWith_30 : decode cX6_lostWith 30 = .ok (.iload_n 1, 1) := by decide +kernel
theorem dX6_lostWith_31 : decode cX6_lostWith 31 = .ok (.bipush 15, 2) := by decide +kernel
theorem dX6_lostWith_33 : decode cX6_lostWith 33 = .ok (.invokestatic 216, 3) := by decide +kernel
theorem dX6_lostWith_36 : decode cX6_lostWith 36 = .ok (.invokevirtual 220, 3) := by decide +kernel
theorem dX6_lostWith_39 : decode cX6_lostWith 39 = .ok (.iconst 0, 1) := by decide +kernel
theorem dX6_lostWith_40 : decode cX6_lostWith 40 = .ok (.istore_n 2, 1) := by decide +kernel
theorem dX6_lostWith_41 : decode cX6_lostWith 41 = .ok (.iconst 0, 1) := by decide +kernel
theorem dX6_lostWith_42 : decode cX6_lostWith 42 = .ok (.istore_n 3, 1) := by decide +kernel
theorem dX6_lostWith_43 : decode cX6_lostWith 43 = .ok (.iload_n 3, 1) := by decide +kernel
theorem dX6_lostWith_44 : decode cX6_lostWith 44 = .ok (.bipush 15, 2) := by decide +kernel
theorem dX6_lostWith_46 : decode cX6_lostWith 46 = .ok (.if_icmp .gt 40, 3) := by decide +kernel
theorem dX6_lostWith_49 : decode cX6_lostWith 49 = .ok (.aload_n 0, 1) := by decide +kernel
theorem dX6_lostWith_50 : decode cX6_lostWith 50 = .ok (.getfield 26, 3) := by decide +kernel
theorem dX6_lostWith_53 : decode cX6_lostWith 53 = .ok (.aload_n 0, 1) := by decide +kernel
theorem dX6_lostWith_54 : decode cX6_lostWith 54 = .ok (.getfield 12, 3) := by decide +kernel
theorem dX6_lostWith_57 : decode cX6_lostWith 57 = .ok (.getfield 85, 3) := by decide +kernel
theorem dX6_lostWith_60 : decode cX6_lostWith 60 = .ok (.getfield 92, 3) := by decide +kernel
theorem dX6_lostWith_63 : decode cX6_lostWith 63 = .ok (.iload_n 1, 1) := by decide +kernel
theorem dX6_lostWith_64 : decode cX6_lostWith 64 = .ok (.iload_n 3, 1) := by decide +kernel
theorem dX6_lostWith_65 : decode cX6_lostWith 65 = .ok (.invokestatic 216, 3) := by decide +kernel
theorem dX6_lostWith_68 : decode cX6_lostWith 68 = .ok (.invokevirtual 192, 3) := by decide +kernel
theorem dX6_lostWith_71 : decode cX6_lostWith 71 = .ok (.ifCond .ne 9, 3) := by decide +kernel
theorem dX6_lostWith_74 : decode cX6_lostWith 74 = .ok (.iload_n 2, 1) := by decide +kernel
theorem dX6_lostWith_75 : decode cX6_lostWith 75 = .ok (.iconst 1, 1) := by decide +kernel
theorem dX6_lostWith_76 : decode cX6_lostWith 76 = .ok (.iload_n 3, 1) := by decide +kernel
theorem dX6_lostWith_77 : decode cX6_lostWith 77 = .ok (.ishl, 1) := by decide +kernel
theorem dX6_lostWith_78 : decode cX6_lostWith 78 = .ok (.ior, 1) := by decide +kernel
theorem dX6_lostWith_79 : decode cX6_lostWith 79 = .ok (.istore_n 2, 1) := by decide +kernel
theorem dX6_lostWith_80 : decode cX6_lostWith 80 = .ok (.iinc 3 1, 3) := by decide +kernel
theorem dX6_lostWith_83 : decode cX6_lostWith 83 = .ok (.goto (-40), 3) := by decide +kernel
theorem dX6_lostWith_86 : decode cX6_lostWith 86 = .ok (.iload_n 2, 1) := by decide +kernel
theorem dX6_lostWith_87 : decode cX6_lostWith 87 = .ok (.ireturn, 1) := by decide +kernel
theorem dX6_lostBelow_0 : decode cX6_lostBelow 0 = .ok (.aload_n 0, 1) := by decide +kernel
theorem dX6_lostBelow_1 : decode cX6_lostBelow 1 = .ok (.invokevirtual 186, 3) := by decide +kernel
theorem dX6_lostBelow_4 : decode cX6_lostBelow 4 = .ok (.aload_n 0, 1) := by decide +kernel
theorem dX6_lostBelow_5 : decode cX6_lostBelow 5 = .ok (.getfield 26, 3) := by decide +kernel
theorem dX6_lostBelow_8 : decode cX6_lostBelow 8 = .ok (.aload_n 0, 1) := by decide +kernel
theorem dX6_lostBelow_9 : decode cX6_lostBelow 9 = .ok (.getfield 12, 3) := by decide +kernel
theorem dX6_lostBelow_12 : decode cX6_lostBelow 12 = .ok (.getfield 85, 3) := by decide +kernel
theorem dX6_lostBelow_15 : decode cX6_lostBelow 15 = .ok (.getfield 92, 3) := by decide +kernel
theorem dX6_lostBelow_18 : decode cX6_lostBelow 18 = .ok (.invokevirtual 223, 3) := by decide +kernel
theorem dX6_lostBelow_21 : decode cX6_lostBelow 21 = .ok (.ireturn, 1) := by decide +kernel
theorem dX6_played_0 : decode cX6_played 0 = .ok (.iload_n 1, 1) := by decide +kernel
theorem dX6_played_1 : decode cX6_played 1 = .ok (.ifCond .lt 17, 3) := by decide +kernel
theorem dX6_played_4 : decode cX6_played 4 = .ok (.iload_n 1, 1) := by decide +kernel
theorem dX6_played_5 : decode cX6_played 5 = .ok (.aload_n 0, 1) := by decide +kernel
theorem dX6_played_6 : decode cX6_played 6 = .ok (.getfield 12, 3) := by decide +kernel
theorem dX6_played_9 : decode cX6_played 9 = .ok (.getfield 85, 3) := by decide +kernel
theorem dX6_played_12 : decode cX6_played 12 = .ok (.getfield 106, 3) := by decide +kernel
theorem dX6_played_15 : decode cX6_played 15 = .ok (.if_icmp .lt 13, 3) := by decide +kernel
theorem dX6_played_18 : decode cX6_played 18 = .ok (.new 161, 3) := by decide +kernel
theorem dX6_played_21 : decode cX6_played 21 = .ok (.dup, 1) := by decide +kernel
theorem dX6_played_22 : decode cX6_played 22 = .ok (.ldc 226, 2) := by decide +kernel
theorem dX6_played_24 : decode cX6_played 24 = .ok (.invokespecial 165, 3) := by decide +kernel
theorem dX6_played_27 : decode cX6_played 27 = .ok (.athrow, 1) := by decide +kernel
theorem dX6_played_28 : decode cX6_played 28 = .ok (.iload_n 2, 1) := by decide +kernel
theorem dX6_played_29 : decode cX6_played 29 = .ok (.ifCond .lt 8, 3) := by decide +kernel
theorem dX6_played_32 : decode cX6_played 32 = .ok (.iload_n 2, 1) := by decide +kernel
theorem dX6_played_33 : decode cX6_played 33 = .ok (.iconst 3, 1) := by decide +kernel
theorem dX6_played_34 : decode cX6_played 34 = .ok (.if_icmp .le 13, 3) := by decide +kernel
theorem dX6_played_37 : decode cX6_played 37 = .ok (.new 56, 3) := by decide +kernel
theorem dX6_played_40 : decode cX6_played 40 = .ok (.dup, 1) := by decide +kernel
theorem dX6_played_41 : decode cX6_played 41 = .ok (.ldc 119, 2) := by decide +kernel
theorem dX6_played_43 : decode cX6_played 43 = .ok (.invokespecial 60, 3) := by decide +kernel
theorem dX6_played_46 : decode cX6_played 46 = .ok (.athrow, 1) := by decide +kernel
theorem dX6_played_47 : decode cX6_played 47 = .ok (.aload_n 0, 1) := by decide +kernel
theorem dX6_played_48 : decode cX6_played 48 = .ok (.getfield 12, 3) := by decide +kernel
theorem dX6_played_51 : decode cX6_played 51 = .ok (.getfield 85, 3) := by decide +kernel
theorem dX6_played_54 : decode cX6_played 54 = .ok (.iload_n 1, 1) := by decide +kernel
theorem dX6_played_55 : decode cX6_played 55 = .ok (.invokevirtual 228, 3) := by decide +kernel
theorem dX6_played_58 : decode cX6_played 58 = .ok (.iload_n 2, 1) := by decide +kernel
theorem dX6_played_59 : decode cX6_played 59 = .ok (.invokestatic 203, 3) := by decide +kernel
theorem dX6_played_62 : decode cX6_played 62 = .ok (.ireturn, 1) := by decide +kernel
theorem dX6_requireHeap_0 : decode cX6_requireHeap 0 = .ok (.iload_n 1, 1) := by decide +kernel
theorem dX6_requireHeap_1 : decode cX6_requireHeap 1 = .ok (.ifCond .lt 17, 3) := by decide +kernel
theorem dX6_requireHeap_4 : decode cX6_requireHeap 4 = .ok (.iload_n 1, 1) := by decide +kernel
theorem dX6_requireHeap_5 : decode cX6_requireHeap 5 = .ok (.aload_n 0, 1) := by decide +kernel
theorem dX6_requireHeap_6 : decode cX6_requireHeap 6 = .ok (.getfield 12, 3) := by decide +kernel
theorem dX6_requireHeap_9 : decode cX6_requireHeap 9 = .ok (.getfield 85, 3) := by decide +kernel
theorem dX6_requireHeap_12 : decode cX6_requireHeap 12 = .ok (.getfield 89, 3) := by decide +kernel
theorem dX6_requireHeap_15 : decode cX6_requireHeap 15 = .ok (.if_icmp .lt 13, 3) := by decide +kernel
theorem dX6_requireHeap_18 : decode cX6_requireHeap 18 = .ok (.new 161, 3) := by decide +kernel
theorem dX6_requireHeap_21 : decode cX6_requireHeap 21 = .ok (.dup, 1) := by decide +kernel
theorem dX6_requireHeap_22 : decode cX6_requireHeap 22 = .ok (.ldc 231, 2) := by decide +kernel
theorem dX6_requireHeap_24 : decode cX6_requireHeap 24 = .ok (.invokespecial 165, 3) := by decide +kernel
theorem dX6_requireHeap_27 : decode cX6_requireHeap 27 = .ok (.athrow, 1) := by decide +kernel
theorem dX6_requireHeap_28 : decode cX6_requireHeap 28 = .ok (.return_, 1) := by decide +kernel
theorem dX6_countersOf_0 : decode cX6_countersOf 0 = .ok (.aload_n 0, 1) := by decide +kernel
theorem dX6_countersOf_1 : decode cX6_countersOf 1 = .ok (.getfield 12, 3) := by decide +kernel
theorem dX6_countersOf_4 : decode cX6_countersOf 4 = .ok (.getfield 85, 3) := by decide +kernel
theorem dX6_countersOf_7 : decode cX6_countersOf 7 = .ok (.getfield 92, 3) := by decide +kernel
theorem dX6_countersOf_10 : decode cX6_countersOf 10 = .ok (.iload_n 1, 1) := by decide +kernel
theorem dX6_countersOf_11 : decode cX6_countersOf 11 = .ok (.invokestatic 180, 3) := by decide +kernel
theorem dX6_countersOf_14 : decode cX6_countersOf 14 = .ok (.ireturn, 1) := by decide +kernel
theorem dX6_solvePosition_0 : decode cX6_solvePosition 0 = .ok (.aload_n 0, 1) := by decide +kernel
theorem dX6_solvePosition_1 : decode cX6_solvePosition 1 = .ok (.getfield 26, 3) := by decide +kernel
theorem dX6_solvePosition_4 : decode cX6_solvePosition 4 = .ok (.aload_n 0, 1) := by decide +kernel
theorem dX6_solvePosition_5 : decode cX6_solvePosition 5 = .ok (.getfield 12, 3) := by decide +kernel
theorem dX6_solvePosition_8 : decode cX6_solvePosition 8 = .ok (.invokevirtual 212, 3) := by decide +kernel
theorem dX6_solvePosition_11 : decode cX6_solvePosition 11 = .ok (.aload_n 0, 1) := by decide +kernel
theorem dX6_solvePosition_12 : decode cX6_solvePosition 12 = .ok (.getfield 26, 3) := by decide +kernel
theorem dX6_solvePosition_15 : decode cX6_solvePosition 15 = .ok (.aload_n 0, 1) := by decide +kernel
theorem dX6_solvePosition_16 : decode cX6_solvePosition 16 = .ok (.getfield 12, 3) := by decide +kernel
theorem dX6_solvePosition_19 : decode cX6_solvePosition 19 = .ok (.getfield 85, 3) := by decide +kernel
theorem dX6_solvePosition_22 : decode cX6_solvePosition 22 = .ok (.getfield 92, 3) := by decide +kernel
theorem dX6_solvePosition_25 : decode cX6_solvePosition 25 = .ok (.invokevirtual 220, 3) := by decide +kernel
theorem dX6_solvePosition_28 : decode cX6_solvePosition 28 = .ok (.return_, 1) := by decide +kernel
theorem dX6_listMoves_0 : decode cX6_listMoves 0 = .ok (.aload_n 0, 1) := by decide +kernel
theorem dX6_listMoves_1 : decode cX6_listMoves 1 = .ok (.getfield 26, 3) := by decide +kernel
theorem dX6_listMoves_4 : decode cX6_listMoves 4 = .ok (.aload_n 0, 1) := by decide +kernel
theorem dX6_listMoves_5 : decode cX6_listMoves 5 = .ok (.getfield 12, 3) := by decide +kernel
theorem dX6_listMoves_8 : decode cX6_listMoves 8 = .ok (.invokevirtual 212, 3) := by decide +kernel
theorem dX6_listMoves_11 : decode cX6_listMoves 11 = .ok (.aload_n 0, 1) := by decide +kernel
theorem dX6_listMoves_12 : decode cX6_listMoves 12 = .ok (.getfield 26, 3) := by decide +kernel
theorem dX6_listMoves_15 : decode cX6_listMoves 15 = .ok (.aload_n 0, 1) := by decide +kernel
theorem dX6_listMoves_16 : decode cX6_listMoves 16 = .ok (.getfield 12, 3) := by decide +kernel
theorem dX6_listMoves_19 : decode cX6_listMoves 19 = .ok (.getfield 85, 3) := by decide +kernel
theorem dX6_listMoves_22 : decode cX6_listMoves 22 = .ok (.getfield 92, 3) := by decide +kernel
theorem dX6_listMoves_25 : decode cX6_listMoves 25 = .ok (.invokevirtual 233, 3) := by decide +kernel
theorem dX6_listMoves_28 : decode cX6_listMoves 28 = .ok (.ireturn, 1) := by decide +kernel
theorem dX6_take_0 : decode cX6_take 0 = .ok (.aload_n 0, 1) := by decide +kernel
theorem dX6_take_1 : decode cX6_take 1 = .ok (.iload_n 1, 1) := by decide +kernel
theorem dX6_take_2 : decode cX6_take 2 = .ok (.invokevirtual 171, 3) := by decide +kernel
theorem dX6_take_5 : decode cX6_take 5 = .ok (.aload_n 0, 1) := by decide +kernel
theorem dX6_take_6 : decode cX6_take 6 = .ok (.getfield 12, 3) := by decide +kernel
theorem dX6_take_9 : decode cX6_take 9 = .ok (.iload_n 1, 1) := by decide +kernel
theorem dX6_take_10 : decode cX6_take 10 = .ok (.invokevirtual 183, 3) := by decide +kernel
theorem dX6_take_13 : decode cX6_take 13 = .ok (.aload_n 0, 1) := by decide +kernel
theorem dX6_take_14 : decode cX6_take 14 = .ok (.iload_n 1, 1) := by decide +kernel
theorem dX6_take_15 : decode cX6_take 15 = .ok (.invokevirtual 174, 3) := by decide +kernel
theorem dX6_take_18 : decode cX6_take 18 = .ok (.iload_n 2, 1) := by decide +kernel
theorem dX6_take_19 : decode cX6_take 19 = .ok (.invokevirtual 136, 3) := by decide +kernel
theorem dX6_take_22 : decode cX6_take 22 = .ok (.ifCond .ne 13, 3) := by decide +kernel
theorem dX6_take_25 : decode cX6_take 25 = .ok (.new 56, 3) := by decide +kernel
theorem dX6_take_28 : decode cX6_take 28 = .ok (.dup, 1) := by decide +kernel
theorem dX6_take_29 : decode cX6_take 29 = .ok (.ldc 236, 2) := by decide +kernel
theorem dX6_take_31 : decode cX6_take 31 = .ok (.invokespecial 60, 3) := by decide +kernel
theorem dX6_take_34 : decode cX6_take 34 = .ok (.athrow, 1) := by decide +kernel
theorem dX6_take_35 : decode cX6_take 35 = .ok (.aload_n 0, 1) := by decide +kernel
theorem dX6_take_36 : decode cX6_take 36 = .ok (.invokevirtual 238, 3) := by decide +kernel
theorem dX6_take_39 : decode cX6_take 39 = .ok (.ifCond .eq 5, 3) := by decide +kernel
theorem dX6_take_42 : decode cX6_take 42 = .ok (.iconst (-1), 1) := by decide +kernel
theorem dX6_take_43 : decode cX6_take 43 = .ok (.ireturn, 1) := by decide +kernel
theorem dX6_take_44 : decode cX6_take 44 = .ok (.aload_n 0, 1) := by decide +kernel
theorem dX6_take_45 : decode cX6_take 45 = .ok (.iconst 0, 1) := by decide +kernel
theorem dX6_take_46 : decode cX6_take 46 = .ok (.iload_n 1, 1) := by decide +kernel
theorem dX6_take_47 : decode cX6_take 47 = .ok (.iload_n 2, 1) := by decide +kernel
theorem dX6_take_48 : decode cX6_take 48 = .ok (.invokestatic 216, 3) := by decide +kernel
theorem dX6_take_51 : decode cX6_take 51 = .ok (.invokevirtual 242, 3) := by decide +kernel
theorem dX6_take_54 : decode cX6_take 54 = .ok (.aload_n 0, 1) := by decide +kernel
theorem dX6_take_55 : decode cX6_take 55 = .ok (.iload_n 1, 1) := by decide +kernel
theorem dX6_take_56 : decode cX6_take 56 = .ok (.invokevirtual 174, 3) := by decide +kernel
theorem dX6_take_59 : decode cX6_take 59 = .ok (.ireturn, 1) := by decide +kernel
theorem dX6_takeBoth_0 : decode cX6_takeBoth 0 = .ok (.aload_n 0, 1) := by decide +kernel
theorem dX6_takeBoth_1 : decode cX6_takeBoth 1 = .ok (.iload_n 1, 1) := by decide +kernel
theorem dX6_takeBoth_2 : decode cX6_takeBoth 2 = .ok (.invokevirtual 171, 3) := by decide +kernel
theorem dX6_takeBoth_5 : decode cX6_takeBoth 5 = .ok (.aload_n 0, 1) := by decide +kernel
theorem dX6_takeBoth_6 : decode cX6_takeBoth 6 = .ok (.iload_n 2, 1) := by decide +kernel
theorem dX6_takeBoth_7 : decode cX6_takeBoth 7 = .ok (.invokevirtual 171, 3) := by decide +kernel
theorem dX6_takeBoth_10 : decode cX6_takeBoth 10 = .ok (.iload_n 1, 1) := by decide +kernel
theorem dX6_takeBoth_11 : decode cX6_takeBoth 11 = .ok (.iload_n 2, 1) := by decide +kernel
theorem dX6_takeBoth_12 : decode cX6_takeBoth 12 = .ok (.if_icmp .ne 13, 3) := by decide +kernel
theorem dX6_takeBoth_15 : decode cX6_takeBoth 15 = .ok (.new 56, 3) := by decide +kernel
theorem dX6_takeBoth_18 : decode cX6_takeBoth 18 = .ok (.dup, 1) := by decide +kernel
theorem dX6_takeBoth_19 : decode cX6_takeBoth 19 = .ok (.ldc 245, 2) := by decide +kernel
theorem dX6_takeBoth_21 : decode cX6_takeBoth 21 = .ok (.invokespecial 60, 3) := by decide +kernel
theorem dX6_takeBoth_24 : decode cX6_takeBoth 24 = .ok (.athrow, 1) := by decide +kernel
theorem dX6_takeBoth_25 : decode cX6_takeBoth 25 = .ok (.iload_n 3, 1) := by decide +kernel
theorem dX6_takeBoth_26 : decode cX6_takeBoth 26 = .ok (.iconst 1, 1) := by decide +kernel
theorem dX6_takeBoth_27 : decode cX6_takeBoth 27 = .ok (.if_icmp .lt 23, 3) := by decide +kernel
theorem dX6_takeBoth_30 : decode cX6_takeBoth 30 = .ok (.iload_n 3, 1) := by decide +kernel
theorem dX6_takeBoth_31 : decode cX6_takeBoth 31 = .ok (.bipush 15, 2) := by decide +kernel
theorem dX6_takeBoth_33 : decode cX6_takeBoth 33 = .ok (.if_icmp .gt 17, 3) := by decide +kernel
theorem dX6_takeBoth_36 : decode cX6_takeBoth 36 = .ok (.aload_n 0, 1) := by decide +kernel
theorem dX6_takeBoth_37 : decode cX6_takeBoth 37 = .ok (.getfield 12, 3) := by decide +kernel
theorem dX6_takeBoth_40 : decode cX6_takeBoth 40 = .ok (.getfield 99, 3) := by decide +kernel
theorem dX6_takeBoth_43 : decode cX6_takeBoth 43 = .ok (.iload_n 3, 1) := by decide +kernel
theorem dX6_takeBoth_44 : decode cX6_takeBoth 44 = .ok (.ishr, 1) := by decide +kernel
theorem dX6_takeBoth_45 : decode cX6_takeBoth 45 = .ok (.iconst 1, 1) := by decide +kernel
theorem dX6_takeBoth_46 : decode cX6_takeBoth 46 = .ok (.iand, 1) := by decide +kernel
theorem dX6_takeBoth_47 : decode cX6_takeBoth 47 = .ok (.ifCond .ne 13, 3) := by decide +kernel
theorem dX6_takeBoth_50 : decode cX6_takeBoth 50 = .ok (.new 56, 3) := by decide +kernel
theorem dX6_takeBoth_53 : decode cX6_takeBoth 53 = .ok (.dup, 1) := by decide +kernel
theorem dX6_takeBoth_54 : decode cX6_takeBoth 54 = .ok (.ldc 247, 2) := by decide +kernel
theorem dX6_takeBoth_56 : decode cX6_takeBoth 56 = .ok (.invokespecial 60, 3) := by decide +kernel
theorem dX6_takeBoth_59 : decode cX6_takeBoth 59 = .ok (.athrow, 1) := by decide +kernel
theorem dX6_takeBoth_60 : decode cX6_takeBoth 60 = .ok (.aload_n 0, 1) := by decide +kernel
theorem dX6_takeBoth_61 : decode cX6_takeBoth 61 = .ok (.iload_n 1, 1) := by decide +kernel
theorem dX6_takeBoth_62 : decode cX6_takeBoth 62 = .ok (.invokevirtual 174, 3) := by decide +kernel
theorem dX6_takeBoth_65 : decode cX6_takeBoth 65 = .ok (.iload_n 3, 1) := by decide +kernel
theorem dX6_takeBoth_66 : decode cX6_takeBoth 66 = .ok (.if_icmp .lt 12, 3) := by decide +kernel
theorem dX6_takeBoth_69 : decode cX6_takeBoth 69 = .ok (.aload_n 0, 1) := by decide +kernel
theorem dX6_takeBoth_70 : decode cX6_takeBoth 70 = .ok (.iload_n 2, 1) := by decide +kernel
theorem dX6_takeBoth_71 : decode cX6_takeBoth 71 = .ok (.invokevirtual 174, 3) := by decide +kernel
theorem dX6_takeBoth_74 : decode cX6_takeBoth 74 = .ok (.iload_n 3, 1) := by decide +kernel
theorem dX6_takeBoth_75 : decode cX6_takeBoth 75 = .ok (.if_icmp .ge 13, 3) := by decide +kernel
theorem dX6_takeBoth_78 : decode cX6_takeBoth 78 = .ok (.new 56, 3) := by decide +kernel
theorem dX6_takeBoth_81 : decode cX6_takeBoth 81 = .ok (.dup, 1) := by decide +kernel
theorem dX6_takeBoth_82 : decode cX6_takeBoth 82 = .ok (.ldc 249, 2) := by decide +kernel
theorem dX6_takeBoth_84 : decode cX6_takeBoth 84 = .ok (.invokespecial 60, 3) := by decide +kernel
theorem dX6_takeBoth_87 : decode cX6_takeBoth 87 = .ok (.athrow, 1) := by decide +kernel
theorem dX6_takeBoth_88 : decode cX6_takeBoth 88 = .ok (.aload_n 0, 1) := by decide +kernel
theorem dX6_takeBoth_89 : decode cX6_takeBoth 89 = .ok (.invokevirtual 238, 3) := by decide +kernel
theorem dX6_takeBoth_92 : decode cX6_takeBoth 92 = .ok (.ifCond .eq 5, 3) := by decide +kernel
theorem dX6_takeBoth_95 : decode cX6_takeBoth 95 = .ok (.iconst (-1), 1) := by decide +kernel
theorem dX6_takeBoth_96 : decode cX6_takeBoth 96 = .ok (.ireturn, 1) := by decide +kernel
theorem dX6_takeBoth_97 : decode cX6_takeBoth 97 = .ok (.aload_n 0, 1) := by decide +kernel
theorem dX6_takeBoth_98 : decode cX6_takeBoth 98 = .ok (.iconst 0, 1) := by decide +kernel
theorem dX6_takeBoth_99 : decode cX6_takeBoth 99 = .ok (.iload_n 1, 1) := by decide +kernel
theorem dX6_takeBoth_100 : decode cX6_takeBoth 100 = .ok (.iload_n 3, 1) := by decide +kernel
theorem dX6_takeBoth_101 : decode cX6_takeBoth 101 = .ok (.invokestatic 216, 3) := by decide +kernel
theorem dX6_takeBoth_104 : decode cX6_takeBoth 104 = .ok (.iload_n 2, 1) := by decide +kernel
theorem dX6_takeBoth_105 : decode cX6_takeBoth 105 = .ok (.iload_n 3, 1) := by decide +kernel
theorem dX6_takeBoth_106 : decode cX6_takeBoth 106 = .ok (.invokestatic 216, 3) := by decide +kernel
theorem dX6_takeBoth_109 : decode cX6_takeBoth 109 = .ok (.invokevirtual 242, 3) := by decide +kernel
theorem dX6_takeBoth_112 : decode cX6_takeBoth 112 = .ok (.aload_n 0, 1) := by decide +kernel
theorem dX6_takeBoth_113 : decode cX6_takeBoth 113 = .ok (.invokevirtual 251, 3) := by decide +kernel
theorem dX6_takeBoth_116 : decode cX6_takeBoth 116 = .ok (.ireturn, 1) := by decide +kernel
theorem dX6_pass_0 : decode cX6_pass 0 = .ok (.aload_n 0, 1) := by decide +kernel
theorem dX6_pass_1 : decode cX6_pass 1 = .ok (.getfield 12, 3) := by decide +kernel
theorem dX6_pass_4 : decode cX6_pass 4 = .ok (.getfield 85, 3) := by decide +kernel
theorem dX6_pass_7 : decode cX6_pass 7 = .ok (.getfield 92, 3) := by decide +kernel
theorem dX6_pass_10 : decode cX6_pass 10 = .ok (.invokestatic 95, 3) := by decide +kernel
theorem dX6_pass_13 : decode cX6_pass 13 = .ok (.ifCond .eq 10, 3) := by decide +kernel
theorem dX6_pass_16 : decode cX6_pass 16 = .ok (.aload_n 0, 1) := by decide +kernel
theorem dX6_pass_17 : decode cX6_pass 17 = .ok (.invokevirtual 121, 3) := by decide +kernel
theorem dX6_pass_20 : decode cX6_pass 20 = .ok (.ifCond .ne 14, 3) := by decide +kernel
theorem dX6_pass_23 : decode cX6_pass 23 = .ok (.new 254, 3) := by decide +kernel
theorem dX6_pass_26 : decode cX6_pass 26 = .ok (.dup, 1) := by decide +kernel
theorem dX6_pass_27 : decode cX6_pass 27 = .ok (.ldc_w 256, 3) := by decide +kernel
theorem dX6_pass_30 : decode cX6_pass 30 = .ok (.invokespecial 258, 3) := by decide +kernel
theorem dX6_pass_33 : decode cX6_pass 33 = .ok (.athrow, 1) := by decide +kernel
theorem dX6_pass_34 : decode cX6_pass 34 = .ok (.aload_n 0, 1) := by decide +kernel
theorem dX6_pass_35 : decode cX6_pass 35 = .ok (.invokevirtual 238, 3) := by decide +kernel
theorem dX6_pass_38 : decode cX6_pass 38 = .ok (.ifCond .eq 5, 3) := by decide +kernel
theorem dX6_pass_41 : decode cX6_pass 41 = .ok (.iconst (-1), 1) := by decide +kernel
theorem dX6_pass_42 : decode cX6_pass 42 = .ok (.ireturn, 1) := by decide +kernel
theorem dX6_pass_43 : decode cX6_pass 43 = .ok (.aload_n 0, 1) := by decide +kernel
theorem dX6_pass_44 : decode cX6_pass 44 = .ok (.ldc_w 259, 3) := by decide +kernel
theorem dX6_pass_47 : decode cX6_pass 47 = .ok (.invokevirtual 242, 3) := by decide +kernel
theorem dX6_pass_50 : decode cX6_pass 50 = .ok (.aload_n 0, 1) := by decide +kernel
theorem dX6_pass_51 : decode cX6_pass 51 = .ok (.getfield 12, 3) := by decide +kernel
theorem dX6_pass_54 : decode cX6_pass 54 = .ok (.getfield 85, 3) := by decide +kernel
theorem dX6_pass_57 : decode cX6_pass 57 = .ok (.getfield 92, 3) := by decide +kernel
theorem dX6_pass_60 : decode cX6_pass 60 = .ok (.invokestatic 95, 3) := by decide +kernel
theorem dX6_pass_63 : decode cX6_pass 63 = .ok (.ireturn, 1) := by decide +kernel
theorem dX6_play_0 : decode cX6_play 0 = .ok (.aload_n 0, 1) := by decide +kernel
theorem dX6_play_1 : decode cX6_play 1 = .ok (.invokevirtual 186, 3) := by decide +kernel
theorem dX6_play_4 : decode cX6_play 4 = .ok (.aload_n 0, 1) := by decide +kernel
theorem dX6_play_5 : decode cX6_play 5 = .ok (.invokevirtual 206, 3) := by decide +kernel
theorem dX6_play_8 : decode cX6_play 8 = .ok (.istore_n 1, 1) := by decide +kernel
theorem dX6_play_9 : decode cX6_play 9 = .ok (.iload_n 1, 1) := by decide +kernel
theorem dX6_play_10 : decode cX6_play 10 = .ok (.iconst (-1), 1) := by decide +kernel
theorem dX6_play_11 : decode cX6_play 11 = .ok (.if_icmp .ne 14, 3) := by decide +kernel
theorem dX6_play_14 : decode cX6_play 14 = .ok (.new 254, 3) := by decide +kernel
theorem dX6_play_17 : decode cX6_play 17 = .ok (.dup, 1) := by decide +kernel
theorem dX6_play_18 : decode cX6_play 18 = .ok (.ldc_w 260, 3) := by decide +kernel
theorem dX6_play_21 : decode cX6_play 21 = .ok (.invokespecial 258, 3) := by decide +kernel
theorem dX6_play_24 : decode cX6_play 24 = .ok (.athrow, 1) := by decide +kernel
theorem dX6_play_25 : decode cX6_play 25 = .ok (.aload_n 0, 1) := by decide +kernel
theorem dX6_play_26 : decode cX6_play 26 = .ok (.invokevirtual 238, 3) := by decide +kernel
theorem dX6_play_29 : decode cX6_play 29 = .ok (.ifCond .eq 5, 3) := by decide +kernel
theorem dX6_play_32 : decode cX6_play 32 = .ok (.iconst (-1), 1) := by decide +kernel
theorem dX6_play_33 : decode cX6_play 33 = .ok (.ireturn, 1) := by decide +kernel
theorem dX6_play_34 : decode cX6_play 34 = .ok (.aload_n 0, 1) := by decide +kernel
theorem dX6_play_35 : decode cX6_play 35 = .ok (.aload_n 0, 1) := by decide +kernel
theorem dX6_play_36 : decode cX6_play 36 = .ok (.getfield 12, 3) := by decide +kernel
theorem dX6_play_39 : decode cX6_play 39 = .ok (.getfield 85, 3) := by decide +kernel
theorem dX6_play_42 : decode cX6_play 42 = .ok (.getfield 92, 3) := by decide +kernel
theorem dX6_play_45 : decode cX6_play 45 = .ok (.aload_n 0, 1) := by decide +kernel
theorem dX6_play_46 : decode cX6_play 46 = .ok (.getfield 26, 3) := by decide +kernel
theorem dX6_play_49 : decode cX6_play 49 = .ok (.iload_n 1, 1) := by decide +kernel
theorem dX6_play_50 : decode cX6_play 50 = .ok (.invokevirtual 200, 3) := by decide +kernel
theorem dX6_play_53 : decode cX6_play 53 = .ok (.isub, 1) := by decide +kernel
theorem dX6_play_54 : decode cX6_play 54 = .ok (.invokevirtual 242, 3) := by decide +kernel
theorem dX6_play_57 : decode cX6_play 57 = .ok (.iload_n 1, 1) := by decide +kernel
theorem dX6_play_58 : decode cX6_play 58 = .ok (.ireturn, 1) := by decide +kernel
theorem dX6_setSize_0 : decode cX6_setSize 0 = .ok (.aload_n 0, 1) := by decide +kernel
theorem dX6_setSize_1 : decode cX6_setSize 1 = .ok (.iload_n 1, 1) := by decide +kernel
theorem dX6_setSize_2 : decode cX6_setSize 2 = .ok (.invokevirtual 171, 3) := by decide +kernel
theorem dX6_setSize_5 : decode cX6_setSize 5 = .ok (.iload_n 2, 1) := by decide +kernel
theorem dX6_setSize_6 : decode cX6_setSize 6 = .ok (.invokestatic 262, 3) := by decide +kernel
theorem dX6_setSize_9 : decode cX6_setSize 9 = .ok (.aload_n 0, 1) := by decide +kernel
theorem dX6_setSize_10 : decode cX6_setSize 10 = .ok (.getfield 33, 3) := by decide +kernel
theorem dX6_setSize_13 : decode cX6_setSize 13 = .ok (.aload_n 0, 1) := by decide +kernel
theorem dX6_setSize_14 : decode cX6_setSize 14 = .ok (.getfield 12, 3) := by decide +kernel
theorem dX6_setSize_17 : decode cX6_setSize 17 = .ok (.getfield 85, 3) := by decide +kernel
theorem dX6_setSize_20 : decode cX6_setSize 20 = .ok (.invokevirtual 265, 3) := by decide +kernel
theorem dX6_setSize_23 : decode cX6_setSize 23 = .ok (.aload_n 0, 1) := by decide +kernel
theorem dX6_setSize_24 : decode cX6_setSize 24 = .ok (.iload_n 1, 1) := by decide +kernel
theorem dX6_setSize_25 : decode cX6_setSize 25 = .ok (.invokevirtual 174, 3) := by decide +kernel
theorem dX6_setSize_28 : decode cX6_setSize 28 = .ok (.istore_n 3, 1) := by decide +kernel
theorem dX6_setSize_29 : decode cX6_setSize 29 = .ok (.aload_n 0, 1) := by decide +kernel
theorem dX6_setSize_30 : decode cX6_setSize 30 = .ok (.getfield 12, 3) := by decide +kernel
theorem dX6_setSize_33 : decode cX6_setSize 33 = .ok (.getfield 85, 3) := by decide +kernel
theorem dX6_setSize_36 : decode cX6_setSize 36 = .ok (.aload_n 0, 1) := by decide +kernel
theorem dX6_setSize_37 : decode cX6_setSize 37 = .ok (.getfield 12, 3) := by decide +kernel
theorem dX6_setSize_40 : decode cX6_setSize 40 = .ok (.getfield 85, 3) := by decide +kernel
theorem dX6_setSize_43 : decode cX6_setSize 43 = .ok (.getfield 92, 3) := by decide +kernel
theorem dX6_setSize_46 : decode cX6_setSize 46 = .ok (.iload_n 1, 1) := by decide +kernel
theorem dX6_setSize_47 : decode cX6_setSize 47 = .ok (.iload_n 2, 1) := by decide +kernel
theorem dX6_setSize_48 : decode cX6_setSize 48 = .ok (.invokestatic 216, 3) := by decide +kernel
theorem dX6_setSize_51 : decode cX6_setSize 51 = .ok (.putfield 92, 3) := by decide +kernel
theorem dX6_setSize_54 : decode cX6_setSize 54 = .ok (.iload_n 3, 1) := by decide +kernel
theorem dX6_setSize_55 : decode cX6_setSize 55 = .ok (.ireturn, 1) := by decide +kernel
theorem dX6_setPasses_0 : decode cX6_setPasses 0 = .ok (.iload_n 1, 1) := by decide +kernel
theorem dX6_setPasses_1 : decode cX6_setPasses 1 = .ok (.ifCond .lt 8, 3) := by decide +kernel
theorem dX6_setPasses_4 : decode cX6_setPasses 4 = .ok (.iload_n 1, 1) := by decide +kernel
theorem dX6_setPasses_5 : decode cX6_setPasses 5 = .ok (.iconst 3, 1) := by decide +kernel
theorem dX6_setPasses_6 : decode cX6_setPasses 6 = .ok (.if_icmp .le 14, 3) := by decide +kernel
theorem dX6_setPasses_9 : decode cX6_setPasses 9 = .ok (.new 56, 3) := by decide +kernel
theorem dX6_setPasses_12 : decode cX6_setPasses 12 = .ok (.dup, 1) := by decide +kernel
theorem dX6_setPasses_13 : decode cX6_setPasses 13 = .ok (.ldc_w 269, 3) := by decide +kernel
theorem dX6_setPasses_16 : decode cX6_setPasses 16 = .ok (.invokespecial 60, 3) := by decide +kernel
theorem dX6_setPasses_19 : decode cX6_setPasses 19 = .ok (.athrow, 1) := by decide +kernel
theorem dX6_setPasses_20 : decode cX6_setPasses 20 = .ok (.aload_n 0, 1) := by decide +kernel
theorem dX6_setPasses_21 : decode cX6_setPasses 21 = .ok (.getfield 33, 3) := by decide +kernel
theorem dX6_setPasses_24 : decode cX6_setPasses 24 = .ok (.aload_n 0, 1) := by decide +kernel
theorem dX6_setPasses_25 : decode cX6_setPasses 25 = .ok (.getfield 12, 3) := by decide +kernel
theorem dX6_setPasses_28 : decode cX6_setPasses 28 = .ok (.getfield 85, 3) := by decide +kernel
theorem dX6_setPasses_31 : decode cX6_setPasses 31 = .ok (.invokevirtual 265, 3) := by decide +kernel
theorem dX6_setPasses_34 : decode cX6_setPasses 34 = .ok (.aload_n 0, 1) := by decide +kernel
theorem dX6_setPasses_35 : decode cX6_setPasses 35 = .ok (.getfield 12, 3) := by decide +kernel
theorem dX6_setPasses_38 : decode cX6_setPasses 38 = .ok (.getfield 85, 3) := by decide +kernel
theorem dX6_setPasses_41 : decode cX6_setPasses 41 = .ok (.getfield 92, 3) := by decide +kernel
theorem dX6_setPasses_44 : decode cX6_setPasses 44 = .ok (.invokestatic 95, 3) := by decide +kernel
theorem dX6_setPasses_47 : decode cX6_setPasses 47 = .ok (.istore_n 2, 1) := by decide +kernel
theorem dX6_setPasses_48 : decode cX6_setPasses 48 = .ok (.aload_n 0, 1) := by decide +kernel
theorem dX6_setPasses_49 : decode cX6_setPasses 49 = .ok (.getfield 12, 3) := by decide +kernel
theorem dX6_setPasses_52 : decode cX6_setPasses 52 = .ok (.getfield 85, 3) := by decide +kernel
theorem dX6_setPasses_55 : decode cX6_setPasses 55 = .ok (.dup, 1) := by decide +kernel
theorem dX6_setPasses_56 : decode cX6_setPasses 56 = .ok (.getfield 92, 3) := by decide +kernel
theorem dX6_setPasses_59 : decode cX6_setPasses 59 = .ok (.iload_n 1, 1) := by decide +kernel
theorem dX6_setPasses_60 : decode cX6_setPasses 60 = .ok (.iload_n 2, 1) := by decide +kernel
theorem dX6_setPasses_61 : decode cX6_setPasses 61 = .ok (.isub, 1) := by decide +kernel
theorem dX6_setPasses_62 : decode cX6_setPasses 62 = .ok (.ldc_w 259, 3) := by decide +kernel
theorem dX6_setPasses_65 : decode cX6_setPasses 65 = .ok (.imul, 1) := by decide +kernel
theorem dX6_setPasses_66 : decode cX6_setPasses 66 = .ok (.iadd, 1) := by decide +kernel
theorem dX6_setPasses_67 : decode cX6_setPasses 67 = .ok (.putfield 92, 3) := by decide +kernel
theorem dX6_setPasses_70 : decode cX6_setPasses 70 = .ok (.iload_n 2, 1) := by decide +kernel
theorem dX6_setPasses_71 : decode cX6_setPasses 71 = .ok (.ireturn, 1) := by decide +kernel
theorem dX6_setMisere_0 : decode cX6_setMisere 0 = .ok (.aload_n 0, 1) := by decide +kernel
theorem dX6_setMisere_1 : decode cX6_setMisere 1 = .ok (.getfield 33, 3) := by decide +kernel
theorem dX6_setMisere_4 : decode cX6_setMisere 4 = .ok (.aload_n 0, 1) := by decide +kernel
theorem dX6_setMisere_5 : decode cX6_setMisere 5 = .ok (.getfield 12, 3) := by decide +kernel
theorem dX6_setMisere_8 : decode cX6_setMisere 8 = .ok (.getfield 85, 3) := by decide +kernel
theorem dX6_setMisere_11 : decode cX6_setMisere 11 = .ok (.invokevirtual 265, 3) := by decide +kernel
theorem dX6_setMisere_14 : decode cX6_setMisere 14 = .ok (.aload_n 0, 1) := by decide +kernel
theorem dX6_setMisere_15 : decode cX6_setMisere 15 = .ok (.getfield 12, 3) := by decide +kernel
theorem dX6_setMisere_18 : decode cX6_setMisere 18 = .ok (.getfield 85, 3) := by decide +kernel
theorem dX6_setMisere_21 : decode cX6_setMisere 21 = .ok (.getfield 102, 3) := by decide +kernel
theorem dX6_setMisere_24 : decode cX6_setMisere 24 = .ok (.istore_n 2, 1) := by decide +kernel
theorem dX6_setMisere_25 : decode cX6_setMisere 25 = .ok (.aload_n 0, 1) := by decide +kernel
theorem dX6_setMisere_26 : decode cX6_setMisere 26 = .ok (.getfield 12, 3) := by decide +kernel
theorem dX6_setMisere_29 : decode cX6_setMisere 29 = .ok (.getfield 85, 3) := by decide +kernel
theorem dX6_setMisere_32 : decode cX6_setMisere 32 = .ok (.iload_n 1, 1) := by decide +kernel
theorem dX6_setMisere_33 : decode cX6_setMisere 33 = .ok (.putfield 102, 3) := by decide +kernel
theorem dX6_setMisere_36 : decode cX6_setMisere 36 = .ok (.iload_n 2, 1) := by decide +kernel
theorem dX6_setMisere_37 : decode cX6_setMisere 37 = .ok (.ireturn, 1) := by decide +kernel
theorem dX6_addHeap_0 : decode cX6_addHeap 0 = .ok (.aload_n 0, 1) := by decide +kernel
theorem dX6_addHeap_1 : decode cX6_addHeap 1 = .ok (.iload_n 1, 1) := by decide +kernel
theorem dX6_addHeap_2 : decode cX6_addHeap 2 = .ok (.invokevirtual 124, 3) := by decide +kernel
theorem dX6_addHeap_5 : decode cX6_addHeap 5 = .ok (.pop, 1) := by decide +kernel
theorem dX6_addHeap_6 : decode cX6_addHeap 6 = .ok (.iload_n 2, 1) := by decide +kernel
theorem dX6_addHeap_7 : decode cX6_addHeap 7 = .ok (.invokestatic 262, 3) := by decide +kernel
theorem dX6_addHeap_10 : decode cX6_addHeap 10 = .ok (.aload_n 0, 1) := by decide +kernel
theorem dX6_addHeap_11 : decode cX6_addHeap 11 = .ok (.getfield 12, 3) := by decide +kernel
theorem dX6_addHeap_14 : decode cX6_addHeap 14 = .ok (.getfield 85, 3) := by decide +kernel
theorem dX6_addHeap_17 : decode cX6_addHeap 17 = .ok (.getfield 89, 3) := by decide +kernel
theorem dX6_addHeap_20 : decode cX6_addHeap 20 = .ok (.iconst 4, 1) := by decide +kernel
theorem dX6_addHeap_21 : decode cX6_addHeap 21 = .ok (.if_icmp .lt 14, 3) := by decide +kernel
theorem dX6_addHeap_24 : decode cX6_addHeap 24 = .ok (.new 254, 3) := by decide +kernel
theorem dX6_addHeap_27 : decode cX6_addHeap 27 = .ok (.dup, 1) := by decide +kernel
theorem dX6_addHeap_28 : decode cX6_addHeap 28 = .ok (.ldc_w 271, 3) := by decide +kernel
theorem dX6_addHeap_31 : decode cX6_addHeap 31 = .ok (.invokespecial 258, 3) := by decide +kernel
theorem dX6_addHeap_34 : decode cX6_addHeap 34 = .ok (.athrow, 1) := by decide +kernel
theorem dX6_addHeap_35 : decode cX6_addHeap 35 = .ok (.aload_n 0, 1) := by decide +kernel
theorem dX6_addHeap_36 : decode cX6_addHeap 36 = .ok (.getfield 33, 3) := by decide +kernel
theorem dX6_addHeap_39 : decode cX6_addHeap 39 = .ok (.aload_n 0, 1) := by decide +kernel
theorem dX6_addHeap_40 : decode cX6_addHeap 40 = .ok (.getfield 12, 3) := by decide +kernel
theorem dX6_addHeap_43 : decode cX6_addHeap 43 = .ok (.getfield 85, 3) := by decide +kernel
theorem dX6_addHeap_46 : decode cX6_addHeap 46 = .ok (.invokevirtual 265, 3) := by decide +kernel
theorem dX6_addHeap_49 : decode cX6_addHeap 49 = .ok (.aload_n 0, 1) := by decide +kernel
theorem dX6_addHeap_50 : decode cX6_addHeap 50 = .ok (.getfield 12, 3) := by decide +kernel
theorem dX6_addHeap_53 : decode cX6_addHeap 53 = .ok (.getfield 85, 3) := by decide +kernel
theorem dX6_addHeap_56 : decode cX6_addHeap 56 = .ok (.iload_n 1, 1) := by decide +kernel
theorem dX6_addHeap_57 : decode cX6_addHeap 57 = .ok (.iload_n 2, 1) := by decide +kernel
theorem dX6_addHeap_58 : decode cX6_addHeap 58 = .ok (.invokevirtual 273, 3) := by decide +kernel
theorem dX6_addHeap_61 : decode cX6_addHeap 61 = .ok (.ireturn, 1) := by decide +kernel
theorem dX6_removeHeap_0 : decode cX6_removeHeap 0 = .ok (.aload_n 0, 1) := by decide +kernel
theorem dX6_removeHeap_1 : decode cX6_removeHeap 1 = .ok (.iload_n 1, 1) := by decide +kernel
theorem dX6_removeHeap_2 : decode cX6_removeHeap 2 = .ok (.invokevirtual 171, 3) := by decide +kernel
theorem dX6_removeHeap_5 : decode cX6_removeHeap 5 = .ok (.aload_n 0, 1) := by decide +kernel
theorem dX6_removeHeap_6 : decode cX6_removeHeap 6 = .ok (.getfield 33, 3) := by decide +kernel
theorem dX6_removeHeap_9 : decode cX6_removeHeap 9 = .ok (.aload_n 0, 1) := by decide +kernel
theorem dX6_removeHeap_10 : decode cX6_removeHeap 10 = .ok (.getfield 12, 3) := by decide +kernel
theorem dX6_removeHeap_13 : decode cX6_removeHeap 13 = .ok (.getfield 85, 3) := by decide +kernel
theorem dX6_removeHeap_16 : decode cX6_removeHeap 16 = .ok (.invokevirtual 265, 3) := by decide +kernel
theorem dX6_removeHeap_19 : decode cX6_removeHeap 19 = .ok (.aload_n 0, 1) := by decide +kernel
theorem dX6_removeHeap_20 : decode cX6_removeHeap 20 = .ok (.getfield 12, 3) := by decide +kernel
theorem dX6_removeHeap_23 : decode cX6_removeHeap 23 = .ok (.getfield 85, 3) := by decide +kernel
theorem dX6_removeHeap_26 : decode cX6_removeHeap 26 = .ok (.iload_n 1, 1) := by decide +kernel
theorem dX6_removeHeap_27 : decode cX6_removeHeap 27 = .ok (.invokevirtual 276, 3) := by decide +kernel
theorem dX6_removeHeap_30 : decode cX6_removeHeap 30 = .ok (.aload_n 0, 1) := by decide +kernel
theorem dX6_removeHeap_31 : decode cX6_removeHeap 31 = .ok (.getfield 12, 3) := by decide +kernel
theorem dX6_removeHeap_34 : decode cX6_removeHeap 34 = .ok (.getfield 85, 3) := by decide +kernel
theorem dX6_removeHeap_37 : decode cX6_removeHeap 37 = .ok (.getfield 89, 3) := by decide +kernel
theorem dX6_removeHeap_40 : decode cX6_removeHeap 40 = .ok (.ireturn, 1) := by decide +kernel
theorem dX6_requireSize_0 : decode cX6_requireSize 0 = .ok (.iload_n 0, 1) := by decide +kernel
theorem dX6_requireSize_1 : decode cX6_requireSize 1 = .ok (.ifCond .lt 9, 3) := by decide +kernel
theorem dX6_requireSize_4 : decode cX6_requireSize 4 = .ok (.iload_n 0, 1) := by decide +kernel
theorem dX6_requireSize_5 : decode cX6_requireSize 5 = .ok (.bipush 15, 2) := by decide +kernel
theorem dX6_requireSize_7 : decode cX6_requireSize 7 = .ok (.if_icmp .le 14, 3) := by decide +kernel
theorem dX6_requireSize_10 : decode cX6_requireSize 10 = .ok (.new 56, 3) := by decide +kernel
theorem dX6_requireSize_13 : decode cX6_requireSize 13 = .ok (.dup, 1) := by decide +kernel
theorem dX6_requireSize_14 : decode cX6_requireSize 14 = .ok (.ldc_w 279, 3) := by decide +kernel
theorem dX6_requireSize_17 : decode cX6_requireSize 17 = .ok (.invokespecial 60, 3) := by decide +kernel
theorem dX6_requireSize_20 : decode cX6_requireSize 20 = .ok (.athrow, 1) := by decide +kernel
theorem dX6_requireSize_21 : decode cX6_requireSize 21 = .ok (.return_, 1) := by decide +kernel
theorem dX6_isRecordFull_0 : decode cX6_isRecordFull 0 = .ok (.aload_n 0, 1) := by decide +kernel
theorem dX6_isRecordFull_1 : decode cX6_isRecordFull 1 = .ok (.getfield 12, 3) := by decide +kernel
theorem dX6_isRecordFull_4 : decode cX6_isRecordFull 4 = .ok (.getfield 85, 3) := by decide +kernel
theorem dX6_isRecordFull_7 : decode cX6_isRecordFull 7 = .ok (.getfield 106, 3) := by decide +kernel
theorem dX6_isRecordFull_10 : decode cX6_isRecordFull 10 = .ok (.bipush 40, 2) := by decide +kernel
theorem dX6_isRecordFull_12 : decode cX6_isRecordFull 12 = .ok (.if_icmp .lt 7, 3) := by decide +kernel
theorem dX6_isRecordFull_15 : decode cX6_isRecordFull 15 = .ok (.iconst 1, 1) := by decide +kernel
theorem dX6_isRecordFull_16 : decode cX6_isRecordFull 16 = .ok (.goto 4, 3) := by decide +kernel
theorem dX6_isRecordFull_19 : decode cX6_isRecordFull 19 = .ok (.iconst 0, 1) := by decide +kernel
theorem dX6_isRecordFull_20 : decode cX6_isRecordFull 20 = .ok (.ireturn, 1) := by decide +kernel
theorem dX6_playMove_0 : decode cX6_playMove 0 = .ok (.aload_n 0, 1) := by decide +kernel
theorem dX6_playMove_1 : decode cX6_playMove 1 = .ok (.getfield 33, 3) := by decide +kernel
theorem dX6_playMove_4 : decode cX6_playMove 4 = .ok (.aload_n 0, 1) := by decide +kernel
theorem dX6_playMove_5 : decode cX6_playMove 5 = .ok (.getfield 12, 3) := by decide +kernel
theorem dX6_playMove_8 : decode cX6_playMove 8 = .ok (.getfield 85, 3) := by decide +kernel
theorem dX6_playMove_11 : decode cX6_playMove 11 = .ok (.invokevirtual 265, 3) := by decide +kernel
theorem dX6_playMove_14 : decode cX6_playMove 14 = .ok (.aload_n 0, 1) := by decide +kernel
theorem dX6_playMove_15 : decode cX6_playMove 15 = .ok (.getfield 12, 3) := by decide +kernel
theorem dX6_playMove_18 : decode cX6_playMove 18 = .ok (.getfield 85, 3) := by decide +kernel
theorem dX6_playMove_21 : decode cX6_playMove 21 = .ok (.dup, 1) := by decide +kernel
theorem dX6_playMove_22 : decode cX6_playMove 22 = .ok (.getfield 92, 3) := by decide +kernel
theorem dX6_playMove_25 : decode cX6_playMove 25 = .ok (.iload_n 1, 1) := by decide +kernel
theorem dX6_playMove_26 : decode cX6_playMove 26 = .ok (.isub, 1) := by decide +kernel
theorem dX6_playMove_27 : decode cX6_playMove 27 = .ok (.putfield 92, 3) := by decide +kernel
theorem dX6_playMove_30 : decode cX6_playMove 30 = .ok (.aload_n 0, 1) := by decide +kernel
theorem dX6_playMove_31 : decode cX6_playMove 31 = .ok (.getfield 12, 3) := by decide +kernel
theorem dX6_playMove_34 : decode cX6_playMove 34 = .ok (.getfield 85, 3) := by decide +kernel
theorem dX6_playMove_37 : decode cX6_playMove 37 = .ok (.iload_n 1, 1) := by decide +kernel
theorem dX6_playMove_38 : decode cX6_playMove 38 = .ok (.invokevirtual 281, 3) := by decide +kernel
theorem dX6_playMove_41 : decode cX6_playMove 41 = .ok (.return_, 1) := by decide +kernel
theorem dX6_countersOfAll_0 : decode cX6_countersOfAll 0 = .ok (.iconst 0, 1) := by decide +kernel
theorem dX6_countersOfAll_1 : decode cX6_countersOfAll 1 = .ok (.istore_n 1, 1) := by decide +kernel
theorem dX6_countersOfAll_2 : decode cX6_countersOfAll 2 = .ok (.iconst 0, 1) := by decide +kernel
theorem dX6_countersOfAll_3 : decode cX6_countersOfAll 3 = .ok (.istore_n 2, 1) := by decide +kernel
theorem dX6_countersOfAll_4 : decode cX6_countersOfAll 4 = .ok (.iload_n 2, 1) := by decide +kernel
theorem dX6_countersOfAll_5 : decode cX6_countersOfAll 5 = .ok (.aload_n 0, 1) := by decide +kernel
theorem dX6_countersOfAll_6 : decode cX6_countersOfAll 6 = .ok (.getfield 12, 3) := by decide +kernel
theorem dX6_countersOfAll_9 : decode cX6_countersOfAll 9 = .ok (.getfield 85, 3) := by decide +kernel
theorem dX6_countersOfAll_12 : decode cX6_countersOfAll 12 = .ok (.getfield 89, 3) := by decide +kernel
theorem dX6_countersOfAll_15 : decode cX6_countersOfAll 15 = .ok (.if_icmp .ge 17, 3) := by decide +kernel
theorem dX6_countersOfAll_18 : decode cX6_countersOfAll 18 = .ok (.iload_n 1, 1) := by decide +kernel
theorem dX6_countersOfAll_19 : decode cX6_countersOfAll 19 = .ok (.aload_n 0, 1) := by decide +kernel
theorem dX6_countersOfAll_20 : decode cX6_countersOfAll 20 = .ok (.iload_n 2, 1) := by decide +kernel
theorem dX6_countersOfAll_21 : decode cX6_countersOfAll 21 = .ok (.invokevirtual 174, 3) := by decide +kernel
theorem dX6_countersOfAll_24 : decode cX6_countersOfAll 24 = .ok (.iadd, 1) := by decide +kernel
theorem dX6_countersOfAll_25 : decode cX6_countersOfAll 25 = .ok (.istore_n 1, 1) := by decide +kernel
theorem dX6_countersOfAll_26 : decode cX6_countersOfAll 26 = .ok (.iinc 2 1, 3) := by decide +kernel
theorem dX6_countersOfAll_29 : decode cX6_countersOfAll 29 = .ok (.goto (-25), 3) := by decide +kernel
theorem dX6_countersOfAll_32 : decode cX6_countersOfAll 32 = .ok (.iload_n 1, 1) := by decide +kernel
theorem dX6_countersOfAll_33 : decode cX6_countersOfAll 33 = .ok (.ireturn, 1) := by decide +kernel
theorem dX6_undo_0 : decode cX6_undo 0 = .ok (.aload_n 0, 1) := by decide +kernel
theorem dX6_undo_1 : decode cX6_undo 1 = .ok (.getfield 33, 3) := by decide +kernel
theorem dX6_undo_4 : decode cX6_undo 4 = .ok (.getfield 116, 3) := by decide +kernel
theorem dX6_undo_7 : decode cX6_undo 7 = .ok (.ifCond .ne 5, 3) := by decide +kernel
theorem dX6_undo_10 : decode cX6_undo 10 = .ok (.iconst (-1), 1) := by decide +kernel
theorem dX6_undo_11 : decode cX6_undo 11 = .ok (.ireturn, 1) := by decide +kernel
theorem dX6_undo_12 : decode cX6_undo 12 = .ok (.aload_n 0, 1) := by decide +kernel
theorem dX6_undo_13 : decode cX6_undo 13 = .ok (.getfield 33, 3) := by decide +kernel
theorem dX6_undo_16 : decode cX6_undo 16 = .ok (.aload_n 0, 1) := by decide +kernel
theorem dX6_undo_17 : decode cX6_undo 17 = .ok (.getfield 12, 3) := by decide +kernel
theorem dX6_undo_20 : decode cX6_undo 20 = .ok (.getfield 85, 3) := by decide +kernel
theorem dX6_undo_23 : decode cX6_undo 23 = .ok (.invokevirtual 284, 3) := by decide +kernel
theorem dX6_undo_26 : decode cX6_undo 26 = .ok (.aload_n 0, 1) := by decide +kernel
theorem dX6_undo_27 : decode cX6_undo 27 = .ok (.getfield 33, 3) := by decide +kernel
theorem dX6_undo_30 : decode cX6_undo 30 = .ok (.getfield 116, 3) := by decide +kernel
theorem dX6_undo_33 : decode cX6_undo 33 = .ok (.ireturn, 1) := by decide +kernel
theorem dX6_saveSnapshot_0 : decode cX6_saveSnapshot 0 = .ok (.iload_n 1, 1) := by decide +kernel
theorem dX6_saveSnapshot_1 : decode cX6_saveSnapshot 1 = .ok (.invokestatic 287, 3) := by decide +kernel
theorem dX6_saveSnapshot_4 : decode cX6_saveSnapshot 4 = .ok (.aload_n 0, 1) := by decide +kernel
theorem dX6_saveSnapshot_5 : decode cX6_saveSnapshot 5 = .ok (.getfield 43, 3) := by decide +kernel
theorem dX6_saveSnapshot_8 : decode cX6_saveSnapshot 8 = .ok (.iload_n 1, 1) := by decide +kernel
theorem dX6_saveSnapshot_9 : decode cX6_saveSnapshot 9 = .ok (.baload, 1) := by decide +kernel
theorem dX6_saveSnapshot_10 : decode cX6_saveSnapshot 10 = .ok (.istore_n 2, 1) := by decide +kernel
theorem dX6_saveSnapshot_11 : decode cX6_saveSnapshot 11 = .ok (.aload_n 0, 1) := by decide +kernel
theorem dX6_saveSnapshot_12 : decode cX6_saveSnapshot 12 = .ok (.getfield 39, 3) := by decide +kernel
theorem dX6_saveSnapshot_15 : decode cX6_saveSnapshot 15 = .ok (.iload_n 1, 1) := by decide +kernel
theorem dX6_saveSnapshot_16 : decode cX6_saveSnapshot 16 = .ok (.aaload, 1) := by decide +kernel
theorem dX6_saveSnapshot_17 : decode cX6_saveSnapshot 17 = .ok (.aload_n 0, 1) := by decide +kernel
theorem dX6_saveSnapshot_18 : decode cX6_saveSnapshot 18 = .ok (.getfield 12, 3) := by decide +kernel
theorem dX6_saveSnapshot_21 : decode cX6_saveSnapshot 21 = .ok (.getfield 85, 3) := by decide +kernel
theorem dX6_saveSnapshot_24 : decode cX6_saveSnapshot 24 = .ok (.invokevirtual 290, 3) := by decide +kernel
theorem dX6_saveSnapshot_27 : decode cX6_saveSnapshot 27 = .ok (.aload_n 0, 1) := by decide +kernel
theorem dX6_saveSnapshot_28 : decode cX6_saveSnapshot 28 = .ok (.getfield 43, 3) := by decide +kernel
theorem dX6_saveSnapshot_31 : decode cX6_saveSnapshot 31 = .ok (.iload_n 1, 1) := by decide +kernel
theorem dX6_saveSnapshot_32 : decode cX6_saveSnapshot 32 = .ok (.iconst 1, 1) := by decide +kernel
theorem dX6_saveSnapshot_33 : decode cX6_saveSnapshot 33 = .ok (.bastore, 1) := by decide +kernel
theorem dX6_saveSnapshot_34 : decode cX6_saveSnapshot 34 = .ok (.iload_n 2, 1) := by decide +kernel
theorem dX6_saveSnapshot_35 : decode cX6_saveSnapshot 35 = .ok (.ireturn, 1) := by decide +kernel
theorem dX6_restoreSnapshot_0 : decode cX6_restoreSnapshot 0 = .ok (.iload_n 1, 1) := by decide +kernel
theorem dX6_restoreSnapshot_1 : decode cX6_restoreSnapshot 1 = .ok (.invokestatic 287, 3) := by decide +kernel
theorem dX6_restoreSnapshot_4 : decode cX6_restoreSnapshot 4 = .ok (.aload_n 0, 1) := by decide +kernel
theorem dX6_restoreSnapshot_5 : decode cX6_restoreSnapshot 5 = .ok (.getfield 43, 3) := by decide +kernel
theorem dX6_restoreSnapshot_8 : decode cX6_restoreSnapshot 8 = .ok (.iload_n 1, 1) := by decide +kernel
theorem dX6_restoreSnapshot_9 : decode cX6_restoreSnapshot 9 = .ok (.baload, 1) := by decide +kernel
theorem dX6_restoreSnapshot_10 : decode cX6_restoreSnapshot 10 = .ok (.ifCond .ne 14, 3) := by decide +kernel
theorem dX6_restoreSnapshot_13 : decode cX6_restoreSnapshot 13 = .ok (.new 254, 3) := by decide +kernel
theorem dX6_restoreSnapshot_16 : decode cX6_restoreSnapshot 16 = .ok (.dup, 1) := by decide +kernel
theorem dX6_restoreSnapshot_17 : decode cX6_restoreSnapshot 17 = .ok (.ldc_w 293, 3) := by decide +kernel
theorem dX6_restoreSnapshot_20 : decode cX6_restoreSnapshot 20 = .ok (.invokespecial 258, 3) := by decide +kernel
theorem dX6_restoreSnapshot_23 : decode cX6_restoreSnapshot 23 = .ok (.athrow, 1) := by decide +kernel
theorem dX6_restoreSnapshot_24 : decode cX6_restoreSnapshot 24 = .ok (.aload_n 0, 1) := by decide +kernel
theorem dX6_restoreSnapshot_25 : decode cX6_restoreSnapshot 25 = .ok (.getfield 12, 3) := by decide +kernel
theorem dX6_restoreSnapshot_28 : decode cX6_restoreSnapshot 28 = .ok (.getfield 85, 3) := by decide +kernel
theorem dX6_restoreSnapshot_31 : decode cX6_restoreSnapshot 31 = .ok (.aload_n 0, 1) := by decide +kernel
theorem dX6_restoreSnapshot_32 : decode cX6_restoreSnapshot 32 = .ok (.getfield 39, 3) := by decide +kernel
theorem dX6_restoreSnapshot_35 : decode cX6_restoreSnapshot 35 = .ok (.iload_n 1, 1) := by decide +kernel
theorem dX6_restoreSnapshot_36 : decode cX6_restoreSnapshot 36 = .ok (.aaload, 1) := by decide +kernel
theorem dX6_restoreSnapshot_37 : decode cX6_restoreSnapshot 37 = .ok (.invokevirtual 290, 3) := by decide +kernel
theorem dX6_restoreSnapshot_40 : decode cX6_restoreSnapshot 40 = .ok (.aload_n 0, 1) := by decide +kernel
theorem dX6_restoreSnapshot_41 : decode cX6_restoreSnapshot 41 = .ok (.getfield 33, 3) := by decide +kernel
theorem dX6_restoreSnapshot_44 : decode cX6_restoreSnapshot 44 = .ok (.invokevirtual 79, 3) := by decide +kernel
theorem dX6_restoreSnapshot_47 : decode cX6_restoreSnapshot 47 = .ok (.aload_n 0, 1) := by decide +kernel
theorem dX6_restoreSnapshot_48 : decode cX6_restoreSnapshot 48 = .ok (.getfield 12, 3) := by decide +kernel
theorem dX6_restoreSnapshot_51 : decode cX6_restoreSnapshot 51 = .ok (.getfield 85, 3) := by decide +kernel
theorem dX6_restoreSnapshot_54 : decode cX6_restoreSnapshot 54 = .ok (.getfield 89, 3) := by decide +kernel
theorem dX6_restoreSnapshot_57 : decode cX6_restoreSnapshot 57 = .ok (.ireturn, 1) := by decide +kernel
theorem dX6_requireSlot_0 : decode cX6_requireSlot 0 = .ok (.iload_n 0, 1) := by decide +kernel
theorem dX6_requireSlot_1 : decode cX6_requireSlot 1 = .ok (.ifCond .lt 8, 3) := by decide +kernel
theorem dX6_requireSlot_4 : decode cX6_requireSlot 4 = .ok (.iload_n 0, 1) := by decide +kernel
theorem dX6_requireSlot_5 : decode cX6_requireSlot 5 = .ok (.iconst 2, 1) := by decide +kernel
theorem dX6_requireSlot_6 : decode cX6_requireSlot 6 = .ok (.if_icmp .lt 14, 3) := by decide +kernel
theorem dX6_requireSlot_9 : decode cX6_requireSlot 9 = .ok (.new 56, 3) := by decide +kernel
theorem dX6_requireSlot_12 : decode cX6_requireSlot 12 = .ok (.dup, 1) := by decide +kernel
theorem dX6_requireSlot_13 : decode cX6_requireSlot 13 = .ok (.ldc_w 295, 3) := by decide +kernel
theorem dX6_requireSlot_16 : decode cX6_requireSlot 16 = .ok (.invokespecial 60, 3) := by decide +kernel
theorem dX6_requireSlot_19 : decode cX6_requireSlot 19 = .ok (.athrow, 1) := by decide +kernel
theorem dX6_requireSlot_20 : decode cX6_requireSlot 20 = .ok (.return_, 1) := by decide +kernel
theorem dX6_checksum_0 : decode cX6_checksum 0 = .ok (.aload_n 0, 1) := by decide +kernel
theorem dX6_checksum_1 : decode cX6_checksum 1 = .ok (.getfield 12, 3) := by decide +kernel
theorem dX6_checksum_4 : decode cX6_checksum 4 = .ok (.getfield 85, 3) := by decide +kernel
theorem dX6_checksum_7 : decode cX6_checksum 7 = .ok (.astore_n 1, 1) := by decide +kernel
theorem dX6_checksum_8 : decode cX6_checksum 8 = .ok (.aload_n 0, 1) := by decide +kernel
theorem dX6_checksum_9 : decode cX6_checksum 9 = .ok (.getfield 12, 3) := by decide +kernel
theorem dX6_checksum_12 : decode cX6_checksum 12 = .ok (.getfield 82, 3) := by decide +kernel
theorem dX6_checksum_15 : decode cX6_checksum 15 = .ok (.i2l, 1) := by decide +kernel
theorem dX6_checksum_16 : decode cX6_checksum 16 = .ok (.lstore_n 2, 1) := by decide +kernel
theorem dX6_checksum_17 : decode cX6_checksum 17 = .ok (.iconst 0, 1) := by decide +kernel
theorem dX6_checksum_18 : decode cX6_checksum 18 = .ok (.istore 4, 2) := by decide +kernel
theorem dX6_checksum_20 : decode cX6_checksum 20 = .ok (.iload 4, 2) := by decide +kernel
theorem dX6_checksum_22 : decode cX6_checksum 22 = .ok (.aload_n 0, 1) := by decide +kernel
theorem dX6_checksum_23 : decode cX6_checksum 23 = .ok (.getfield 12, 3) := by decide +kernel
theorem dX6_checksum_26 : decode cX6_checksum 26 = .ok (.getfield 82, 3) := by decide +kernel
theorem dX6_checksum_29 : decode cX6_checksum 29 = .ok (.if_icmp .ge 29, 3) := by decide +kernel
theorem dX6_checksum_32 : decode cX6_checksum 32 = .ok (.ldc2_w 297, 3) := by decide +kernel
theorem dX6_checksum_35 : decode cX6_checksum 35 = .ok (.lload_n 2, 1) := by decide +kernel
theorem dX6_checksum_36 : decode cX6_checksum 36 = .ok (.lmul, 1) := by decide +kernel
theorem dX6_checksum_37 : decode cX6_checksum 37 = .ok (.aload_n 0, 1) := by decide +kernel
theorem dX6_checksum_38 : decode cX6_checksum 38 = .ok (.getfield 12, 3) := by decide +kernel
theorem dX6_checksum_41 : decode cX6_checksum 41 = .ok (.iload 4, 2) := by decide +kernel
theorem dX6_checksum_43 : decode cX6_checksum 43 = .ok (.invokevirtual 166, 3) := by decide +kernel
theorem dX6_checksum_46 : decode cX6_checksum 46 = .ok (.getfield 128, 3) := by decide +kernel
theorem dX6_checksum_49 : decode cX6_checksum 49 = .ok (.i2l, 1) := by decide +kernel
theorem dX6_checksum_50 : decode cX6_checksum 50 = .ok (.ladd, 1) := by decide +kernel
theorem dX6_checksum_51 : decode cX6_checksum 51 = .ok (.lstore_n 2, 1) := by decide +kernel
theorem dX6_checksum_52 : decode cX6_checksum 52 = .ok (.iinc 4 1, 3) := by decide +kernel
theorem dX6_checksum_55 : decode cX6_checksum 55 = .ok (.goto (-35), 3) := by decide +kernel
theorem dX6_checksum_58 : decode cX6_checksum 58 = .ok (.ldc2_w 297, 3) := by decide +kernel
theorem dX6_checksum_61 : decode cX6_checksum 61 = .ok (.lload_n 2, 1) := by decide +kernel
theorem dX6_checksum_62 : decode cX6_checksum 62 = .ok (.lmul, 1) := by decide +kernel
theorem dX6_checksum_63 : decode cX6_checksum 63 = .ok (.aload_n 1, 1) := by decide +kernel
theorem dX6_checksum_64 : decode cX6_checksum 64 = .ok (.getfield 89, 3) := by decide +kernel
theorem dX6_checksum_67 : decode cX6_checksum 67 = .ok (.i2l, 1) := by decide +kernel
theorem dX6_checksum_68 : decode cX6_checksum 68 = .ok (.ladd, 1) := by decide +kernel
theorem dX6_checksum_69 : decode cX6_checksum 69 = .ok (.lstore_n 2, 1) := by decide +kernel
theorem dX6_checksum_70 : decode cX6_checksum 70 = .ok (.iconst 0, 1) := by decide +kernel
theorem dX6_checksum_71 : decode cX6_checksum 71 = .ok (.istore 4, 2) := by decide +kernel
theorem dX6_checksum_73 : decode cX6_checksum 73 = .ok (.iload 4, 2) := by decide +kernel
theorem dX6_checksum_75 : decode cX6_checksum 75 = .ok (.aload_n 1, 1) := by decide +kernel
theorem dX6_checksum_76 : decode cX6_checksum 76 = .ok (.getfield 89, 3) := by decide +kernel
theorem dX6_checksum_79 : decode cX6_checksum 79 = .ok (.if_icmp .ge 40, 3) := by decide +kernel
theorem dX6_checksum_82 : decode cX6_checksum 82 = .ok (.ldc2_w 297, 3) := by decide +kernel
theorem dX6_checksum_85 : decode cX6_checksum 85 = .ok (.lload_n 2, 1) := by decide +kernel
theorem dX6_checksum_86 : decode cX6_checksum 86 = .ok (.lmul, 1) := by decide +kernel
theorem dX6_checksum_87 : decode cX6_checksum 87 = .ok (.aload_n 1, 1) := by decide +kernel
theorem dX6_checksum_88 : decode cX6_checksum 88 = .ok (.getfield 177, 3) := by decide +kernel
theorem dX6_checksum_91 : decode cX6_checksum 91 = .ok (.iload 4, 2) := by decide +kernel
theorem dX6_checksum_93 : decode cX6_checksum 93 = .ok (.invokestatic 180, 3) := by decide +kernel
theorem dX6_checksum_96 : decode cX6_checksum 96 = .ok (.i2l, 1) := by decide +kernel
theorem dX6_checksum_97 : decode cX6_checksum 97 = .ok (.ladd, 1) := by decide +kernel
theorem dX6_checksum_98 : decode cX6_checksum 98 = .ok (.lstore_n 2, 1) := by decide +kernel
theorem dX6_checksum_99 : decode cX6_checksum 99 = .ok (.ldc2_w 297, 3) := by decide +kernel
theorem dX6_checksum_102 : decode cX6_checksum 102 = .ok (.lload_n 2, 1) := by decide +kernel
theorem dX6_checksum_103 : decode cX6_checksum 103 = .ok (.lmul, 1) := by decide +kernel
theorem dX6_checksum_104 : decode cX6_checksum 104 = .ok (.aload_n 0, 1) := by decide +kernel
theorem dX6_checksum_105 : decode cX6_checksum 105 = .ok (.iload 4, 2) := by decide +kernel
theorem dX6_checksum_107 : decode cX6_checksum 107 = .ok (.invokevirtual 174, 3) := by decide +kernel
theorem dX6_checksum_110 : decode cX6_checksum 110 = .ok (.i2l, 1) := by decide +kernel
theorem dX6_checksum_111 : decode cX6_checksum 111 = .ok (.ladd, 1) := by decide +kernel
theorem dX6_checksum_112 : decode cX6_checksum 112 = .ok (.lstore_n 2, 1) := by decide +kernel
theorem dX6_checksum_113 : decode cX6_checksum 113 = .ok (.iinc 4 1, 3) := by decide +kernel
theorem dX6_checksum_116 : decode cX6_checksum 116 = .ok (.goto (-43), 3) := by decide +kernel
theorem dX6_checksum_119 : decode cX6_checksum 119 = .ok (.ldc2_w 297, 3) := by decide +kernel
theorem dX6_checksum_122 : decode cX6_checksum 122 = .ok (.lload_n 2, 1) := by decide +kernel
theorem dX6_checksum_123 : decode cX6_checksum 123 = .ok (.lmul, 1) := by decide +kernel
theorem dX6_checksum_124 : decode cX6_checksum 124 = .ok (.aload_n 1, 1) := by decide +kernel
theorem dX6_checksum_125 : decode cX6_checksum 125 = .ok (.getfield 92, 3) := by decide +kernel
theorem dX6_checksum_128 : decode cX6_checksum 128 = .ok (.invokestatic 95, 3) := by decide +kernel
theorem dX6_checksum_131 : decode cX6_checksum 131 = .ok (.i2l, 1) := by decide +kernel
theorem dX6_checksum_132 : decode cX6_checksum 132 = .ok (.ladd, 1) := by decide +kernel
theorem dX6_checksum_133 : decode cX6_checksum 133 = .ok (.lstore_n 2, 1) := by decide +kernel
theorem dX6_checksum_134 : decode cX6_checksum 134 = .ok (.ldc2_w 297, 3) := by decide +kernel
theorem dX6_checksum_137 : decode cX6_checksum 137 = .ok (.lload_n 2, 1) := by decide +kernel
theorem dX6_checksum_138 : decode cX6_checksum 138 = .ok (.lmul, 1) := by decide +kernel
theorem dX6_checksum_139 : decode cX6_checksum 139 = .ok (.aload_n 0, 1) := by decide +kernel
theorem dX6_checksum_140 : decode cX6_checksum 140 = .ok (.getfield 12, 3) := by decide +kernel
theorem dX6_checksum_143 : decode cX6_checksum 143 = .ok (.getfield 99, 3) := by decide +kernel
theorem dX6_checksum_146 : decode cX6_checksum 146 = .ok (.i2l, 1) := by decide +kernel
theorem dX6_checksum_147 : decode cX6_checksum 147 = .ok (.ladd, 1) := by decide +kernel
theorem dX6_checksum_148 : decode cX6_checksum 148 = .ok (.lstore_n 2, 1) := by decide +kernel
theorem dX6_checksum_149 : decode cX6_checksum 149 = .ok (.ldc2_w 297, 3) := by decide +kernel
theorem dX6_checksum_152 : decode cX6_checksum 152 = .ok (.lload_n 2, 1) := by decide +kernel
theorem dX6_checksum_153 : decode cX6_checksum 153 = .ok (.lmul, 1) := by decide +kernel
theorem dX6_checksum_154 : decode cX6_checksum 154 = .ok (.aload_n 1, 1) := by decide +kernel
theorem dX6_checksum_155 : decode cX6_checksum 155 = .ok (.getfield 102, 3) := by decide +kernel
theorem dX6_checksum_158 : decode cX6_checksum 158 = .ok (.ifCond .eq 7, 3) := by decide +kernel
theorem dX6_checksum_161 : decode cX6_checksum 161 = .ok (.iconst 1, 1) := by decide +kernel
theorem dX6_checksum_162 : decode cX6_checksum 162 = .ok (.goto 4, 3) := by decide +kernel
theorem dX6_checksum_165 : decode cX6_checksum 165 = .ok (.iconst 0, 1) := by decide +kernel
theorem dX6_checksum_166 : decode cX6_checksum 166 = .ok (.i2l, 1) := by decide +kernel
theorem dX6_checksum_167 : decode cX6_checksum 167 = .ok (.ladd, 1) := by decide +kernel
theorem dX6_checksum_168 : decode cX6_checksum 168 = .ok (.lstore_n 2, 1) := by decide +kernel
theorem dX6_checksum_169 : decode cX6_checksum 169 = .ok (.ldc2_w 297, 3) := by decide +kernel
theorem dX6_checksum_172 : decode cX6_checksum 172 = .ok (.lload_n 2, 1) := by decide +kernel
theorem dX6_checksum_173 : decode cX6_checksum 173 = .ok (.lmul, 1) := by decide +kernel
theorem dX6_checksum_174 : decode cX6_checksum 174 = .ok (.aload_n 1, 1) := by decide +kernel
theorem dX6_checksum_175 : decode cX6_checksum 175 = .ok (.getfield 106, 3) := by decide +kernel
theorem dX6_checksum_178 : decode cX6_checksum 178 = .ok (.i2l, 1) := by decide +kernel
theorem dX6_checksum_179 : decode cX6_checksum 179 = .ok (.ladd, 1) := by decide +kernel
theorem dX6_checksum_180 : decode cX6_checksum 180 = .ok (.lstore_n 2, 1) := by decide +kernel
theorem dX6_checksum_181 : decode cX6_checksum 181 = .ok (.iconst 0, 1) := by decide +kernel
theorem dX6_checksum_182 : decode cX6_checksum 182 = .ok (.istore 4, 2) := by decide +kernel
theorem dX6_checksum_184 : decode cX6_checksum 184 = .ok (.iload 4, 2) := by decide +kernel
theorem dX6_checksum_186 : decode cX6_checksum 186 = .ok (.aload_n 1, 1) := by decide +kernel
theorem dX6_checksum_187 : decode cX6_checksum 187 = .ok (.getfield 106, 3) := by decide +kernel
theorem dX6_checksum_190 : decode cX6_checksum 190 = .ok (.if_icmp .ge 43, 3) := by decide +kernel
theorem dX6_checksum_193 : decode cX6_checksum 193 = .ok (.iconst 0, 1) := by decide +kernel
theorem dX6_checksum_194 : decode cX6_checksum 194 = .ok (.istore 5, 2) := by decide +kernel
theorem dX6_checksum_196 : decode cX6_checksum 196 = .ok (.iload 5, 2) := by decide +kernel
theorem dX6_checksum_198 : decode cX6_checksum 198 = .ok (.iconst 3, 1) := by decide +kernel
theorem dX6_checksum_199 : decode cX6_checksum 199 = .ok (.if_icmp .gt 28, 3) := by decide +kernel
theorem dX6_checksum_202 : decode cX6_checksum 202 = .ok (.ldc2_w 297, 3) := by decide +kernel
theorem dX6_checksum_205 : decode cX6_checksum 205 = .ok (.lload_n 2, 1) := by decide +kernel
theorem dX6_checksum_206 : decode cX6_checksum 206 = .ok (.lmul, 1) := by decide +kernel
theorem dX6_checksum_207 : decode cX6_checksum 207 = .ok (.aload_n 1, 1) := by decide +kernel
theorem dX6_checksum_208 : decode cX6_checksum 208 = .ok (.iload 4, 2) := by decide +kernel
theorem dX6_checksum_210 : decode cX6_checksum 210 = .ok (.invokevirtual 228, 3) := by decide +kernel
theorem dX6_checksum_213 : decode cX6_checksum 213 = .ok (.iload 5, 2) := by decide +kernel
theorem dX6_checksum_215 : decode cX6_checksum 215 = .ok (.invokestatic 203, 3) := by decide +kernel
theorem dX6_checksum_218 : decode cX6_checksum 218 = .ok (.i2l, 1) := by decide +kernel
theorem dX6_checksum_219 : decode cX6_checksum 219 = .ok (.ladd, 1) := by decide +kernel
theorem dX6_checksum_220 : decode cX6_checksum 220 = .ok (.lstore_n 2, 1) := by decide +kernel
theorem dX6_checksum_221 : decode cX6_checksum 221 = .ok (.iinc 5 1, 3) := by decide +kernel
theorem dX6_checksum_224 : decode cX6_checksum 224 = .ok (.goto (-28), 3) := by decide +kernel
theorem dX6_checksum_227 : decode cX6_checksum 227 = .ok (.iinc 4 1, 3) := by decide +kernel
theorem dX6_checksum_230 : decode cX6_checksum 230 = .ok (.goto (-46), 3) := by decide +kernel
theorem dX6_checksum_233 : decode cX6_checksum 233 = .ok (.lload_n 2, 1) := by decide +kernel
theorem dX6_checksum_234 : decode cX6_checksum 234 = .ok (.lreturn, 1) := by decide +kernel
theorem dX6_bitsOf_0 : decode cX6_bitsOf 0 = .ok (.iload_n 0, 1) := by decide +kernel
theorem dX6_bitsOf_1 : decode cX6_bitsOf 1 = .ok (.iconst 4, 1) := by decide +kernel
theorem dX6_bitsOf_2 : decode cX6_bitsOf 2 = .ok (.iload_n 1, 1) := by decide +kernel
theorem dX6_bitsOf_3 : decode cX6_bitsOf 3 = .ok (.imul, 1) := by decide +kernel
theorem dX6_bitsOf_4 : decode cX6_bitsOf 4 = .ok (.ishr, 1) := by decide +kernel
theorem dX6_bitsOf_5 : decode cX6_bitsOf 5 = .ok (.bipush 15, 2) := by decide +kernel
theorem dX6_bitsOf_7 : decode cX6_bitsOf 7 = .ok (.iand, 1) := by decide +kernel
theorem dX6_bitsOf_8 : decode cX6_bitsOf 8 = .ok (.ireturn, 1) := by decide +kernel
theorem dX6_withBits_0 : decode cX6_withBits 0 = .ok (.iload_n 0, 1) := by decide +kernel
theorem dX6_withBits_1 : decode cX6_withBits 1 = .ok (.bipush 15, 2) := by decide +kernel
theorem dX6_withBits_3 : decode cX6_withBits 3 = .ok (.iconst 4, 1) := by decide +kernel
theorem dX6_withBits_4 : decode cX6_withBits 4 = .ok (.iload_n 1, 1) := by decide +kernel
theorem dX6_withBits_5 : decode cX6_withBits 5 = .ok (.imul, 1) := by decide +kernel
theorem dX6_withBits_6 : decode cX6_withBits 6 = .ok (.ishl, 1) := by decide +kernel
theorem dX6_withBits_7 : decode cX6_withBits 7 = .ok (.iconst (-1), 1) := by decide +kernel
theorem dX6_withBits_8 : decode cX6_withBits 8 = .ok (.ixor, 1) := by decide +kernel
theorem dX6_withBits_9 : decode cX6_withBits 9 = .ok (.iand, 1) := by decide +kernel
theorem dX6_withBits_10 : decode cX6_withBits 10 = .ok (.iload_n 2, 1) := by decide +kernel
theorem dX6_withBits_11 : decode cX6_withBits 11 = .ok (.iconst 4, 1) := by decide +kernel
theorem dX6_withBits_12 : decode cX6_withBits 12 = .ok (.iload_n 1, 1) := by decide +kernel
theorem dX6_withBits_13 : decode cX6_withBits 13 = .ok (.imul, 1) := by decide +kernel
theorem dX6_withBits_14 : decode cX6_withBits 14 = .ok (.ishl, 1) := by decide +kernel
theorem dX6_withBits_15 : decode cX6_withBits 15 = .ok (.ior, 1) := by decide +kernel
theorem dX6_withBits_16 : decode cX6_withBits 16 = .ok (.ireturn, 1) := by decide +kernel
theorem dX6_withoutBits_0 : decode cX6_withoutBits 0 = .ok (.iload_n 0, 1) := by decide +kernel
theorem dX6_withoutBits_1 : decode cX6_withoutBits 1 = .ok (.iconst 1, 1) := by decide +kernel
theorem dX6_withoutBits_2 : decode cX6_withoutBits 2 = .ok (.iconst 4, 1) := by decide +kernel
theorem dX6_withoutBits_3 : decode cX6_withoutBits 3 = .ok (.iload_n 1, 1) := by decide +kernel
theorem dX6_withoutBits_4 : decode cX6_withoutBits 4 = .ok (.imul, 1) := by decide +kernel
theorem dX6_withoutBits_5 : decode cX6_withoutBits 5 = .ok (.ishl, 1) := by decide +kernel
theorem dX6_withoutBits_6 : decode cX6_withoutBits 6 = .ok (.iconst 1, 1) := by decide +kernel
theorem dX6_withoutBits_7 : decode cX6_withoutBits 7 = .ok (.isub, 1) := by decide +kernel
theorem dX6_withoutBits_8 : decode cX6_withoutBits 8 = .ok (.iand, 1) := by decide +kernel
theorem dX6_withoutBits_9 : decode cX6_withoutBits 9 = .ok (.istore_n 2, 1) := by decide +kernel
theorem dX6_withoutBits_10 : decode cX6_withoutBits 10 = .ok (.iload_n 0, 1) := by decide +kernel
theorem dX6_withoutBits_11 : decode cX6_withoutBits 11 = .ok (.ldc_w 299, 3) := by decide +kernel
theorem dX6_withoutBits_14 : decode cX6_withoutBits 14 = .ok (.iand, 1) := by decide +kernel
theorem dX6_withoutBits_15 : decode cX6_withoutBits 15 = .ok (.iconst 4, 1) := by decide +kernel
theorem dX6_withoutBits_16 : decode cX6_withoutBits 16 = .ok (.iload_n 1, 1) := by decide +kernel
theorem dX6_withoutBits_17 : decode cX6_withoutBits 17 = .ok (.iconst 1, 1) := by decide +kernel
theorem dX6_withoutBits_18 : decode cX6_withoutBits 18 = .ok (.iadd, 1) := by decide +kernel
theorem dX6_withoutBits_19 : decode cX6_withoutBits 19 = .ok (.imul, 1) := by decide +kernel
theorem dX6_withoutBits_20 : decode cX6_withoutBits 20 = .ok (.ishr, 1) := by decide +kernel
theorem dX6_withoutBits_21 : decode cX6_withoutBits 21 = .ok (.istore_n 3, 1) := by decide +kernel
theorem dX6_withoutBits_22 : decode cX6_withoutBits 22 = .ok (.iload_n 0, 1) := by decide +kernel
theorem dX6_withoutBits_23 : decode cX6_withoutBits 23 = .ok (.ldc_w 300, 3) := by decide +kernel
theorem dX6_withoutBits_26 : decode cX6_withoutBits 26 = .ok (.iand, 1) := by decide +kernel
theorem dX6_withoutBits_27 : decode cX6_withoutBits 27 = .ok (.iload_n 3, 1) := by decide +kernel
theorem dX6_withoutBits_28 : decode cX6_withoutBits 28 = .ok (.iconst 4, 1) := by decide +kernel
theorem dX6_withoutBits_29 : decode cX6_withoutBits 29 = .ok (.iload_n 1, 1) := by decide +kernel
theorem dX6_withoutBits_30 : decode cX6_withoutBits 30 = .ok (.imul, 1) := by decide +kernel
theorem dX6_withoutBits_31 : decode cX6_withoutBits 31 = .ok (.ishl, 1) := by decide +kernel
theorem dX6_withoutBits_32 : decode cX6_withoutBits 32 = .ok (.ior, 1) := by decide +kernel
theorem dX6_withoutBits_33 : decode cX6_withoutBits 33 = .ok (.iload_n 2, 1) := by decide +kernel
theorem dX6_withoutBits_34 : decode cX6_withoutBits 34 = .ok (.ior, 1) := by decide +kernel
theorem dX6_withoutBits_35 : decode cX6_withoutBits 35 = .ok (.ireturn, 1) := by decide +kernel
theorem dX6_passesOf_0 : decode cX6_passesOf 0 = .ok (.iload_n 0, 1) := by decide +kernel
theorem dX6_passesOf_1 : decode cX6_passesOf 1 = .ok (.bipush 16, 2) := by decide +kernel
theorem dX6_passesOf_3 : decode cX6_passesOf 3 = .ok (.ishr, 1) := by decide +kernel
theorem dX6_passesOf_4 : decode cX6_passesOf 4 = .ok (.ireturn, 1) := by decide +kernel
theorem dX6_describe_0 : decode cX6_describe 0 = .ok (.iload_n 0, 1) := by decide +kernel
theorem dX6_describe_1 : decode cX6_describe 1 = .ok (.iconst 0, 1) := by decide +kernel
theorem dX6_describe_2 : decode cX6_describe 2 = .ok (.invokestatic 301, 3) := by decide +kernel
theorem dX6_describe_5 : decode cX6_describe 5 = .ok (.istore_n 2, 1) := by decide +kernel
theorem dX6_describe_6 : decode cX6_describe 6 = .ok (.iload_n 2, 1) := by decide +kernel
theorem dX6_describe_7 : decode cX6_describe 7 = .ok (.iconst (-1), 1) := by decide +kernel
theorem dX6_describe_8 : decode cX6_describe 8 = .ok (.if_icmp .ne 7, 3) := by decide +kernel
theorem dX6_describe_11 : decode cX6_describe 11 = .ok (.iconst (-1), 1) := by decide +kernel
theorem dX6_describe_12 : decode cX6_describe 12 = .ok (.goto 10, 3) := by decide +kernel
theorem dX6_describe_15 : decode cX6_describe 15 = .ok (.iload_n 0, 1) := by decide +kernel
theorem dX6_describe_16 : decode cX6_describe 16 = .ok (.iload_n 2, 1) := by decide +kernel
theorem dX6_describe_17 : decode cX6_describe 17 = .ok (.iconst 1, 1) := by decide +kernel
theorem dX6_describe_18 : decode cX6_describe 18 = .ok (.iadd, 1) := by decide +kernel
theorem dX6_describe_19 : decode cX6_describe 19 = .ok (.invokestatic 301, 3) := by decide +kernel
theorem dX6_describe_22 : decode cX6_describe 22 = .ok (.istore_n 3, 1) := by decide +kernel
theorem dX6_describe_23 : decode cX6_describe 23 = .ok (.iload_n 1, 1) := by decide +kernel
theorem dX6_describe_24 : decode cX6_describe 24 = .ok (.tableswitch 52 0 2 #[28, 48, 50], 28) := by decide +kernel
theorem dX6_describe_52 : decode cX6_describe 52 = .ok (.iload_n 2, 1) := by decide +kernel
theorem dX6_describe_53 : decode cX6_describe 53 = .ok (.iconst (-1), 1) := by decide +kernel
theorem dX6_describe_54 : decode cX6_describe 54 = .ok (.if_icmp .ne 7, 3) := by decide +kernel
theorem dX6_describe_57 : decode cX6_describe 57 = .ok (.iconst 2, 1) := by decide +kernel
theorem dX6_describe_58 : decode cX6_describe 58 = .ok (.goto 13, 3) := by decide +kernel
theorem dX6_describe_61 : decode cX6_describe 61 = .ok (.iload_n 3, 1) := by decide +kernel
theorem dX6_describe_62 : decode cX6_describe 62 = .ok (.iconst (-1), 1) := by decide +kernel
theorem dX6_describe_63 : decode cX6_describe 63 = .ok (.if_icmp .ne 7, 3) := by decide +kernel
theorem dX6_describe_66 : decode cX6_describe 66 = .ok (.iconst 0, 1) := by decide +kernel
theorem dX6_describe_67 : decode cX6_describe 67 = .ok (.goto 4, 3) := by decide +kernel
theorem dX6_describe_70 : decode cX6_describe 70 = .ok (.iconst 1, 1) := by decide +kernel
theorem dX6_describe_71 : decode cX6_describe 71 = .ok (.ireturn, 1) := by decide +kernel
theorem dX6_describe_72 : decode cX6_describe 72 = .ok (.iload_n 2, 1) := by decide +kernel
theorem dX6_describe_73 : decode cX6_describe 73 = .ok (.ireturn, 1) := by decide +kernel
theorem dX6_describe_74 : decode cX6_describe 74 = .ok (.iload_n 3, 1) := by decide +kernel
theorem dX6_describe_75 : decode cX6_describe 75 = .ok (.ireturn, 1) := by decide +kernel
theorem dX6_describe_76 : decode cX6_describe 76 = .ok (.iload_n 2, 1) := by decide +kernel
theorem dX6_describe_77 : decode cX6_describe 77 = .ok (.iconst (-1), 1) := by decide +kernel
theorem dX6_describe_78 : decode cX6_describe 78 = .ok (.if_icmp .ne 7, 3) := by decide +kernel
theorem dX6_describe_81 : decode cX6_describe 81 = .ok (.iconst 0, 1) := by decide +kernel
theorem dX6_describe_82 : decode cX6_describe 82 = .ok (.goto 8, 3) := by decide +kernel
theorem dX6_describe_85 : decode cX6_describe 85 = .ok (.iload_n 0, 1) := by decide +kernel
theorem dX6_describe_86 : decode cX6_describe 86 = .ok (.iload_n 2, 1) := by decide +kernel
theorem dX6_describe_87 : decode cX6_describe 87 = .ok (.invokestatic 180, 3) := by decide +kernel
theorem dX6_describe_90 : decode cX6_describe 90 = .ok (.ireturn, 1) := by decide +kernel
theorem dX6_heapTakenFrom_0 : decode cX6_heapTakenFrom 0 = .ok (.iload_n 1, 1) := by decide +kernel
theorem dX6_heapTakenFrom_1 : decode cX6_heapTakenFrom 1 = .ok (.istore_n 2, 1) := by decide +kernel
theorem dX6_heapTakenFrom_2 : decode cX6_heapTakenFrom 2 = .ok (.iload_n 2, 1) := by decide +kernel
theorem dX6_heapTakenFrom_3 : decode cX6_heapTakenFrom 3 = .ok (.iconst 4, 1) := by decide +kernel
theorem dX6_heapTakenFrom_4 : decode cX6_heapTakenFrom 4 = .ok (.if_icmp .ge 19, 3) := by decide +kernel
theorem dX6_heapTakenFrom_7 : decode cX6_heapTakenFrom 7 = .ok (.iload_n 0, 1) := by decide +kernel
theorem dX6_heapTakenFrom_8 : decode cX6_heapTakenFrom 8 = .ok (.iload_n 2, 1) := by decide +kernel
theorem dX6_heapTakenFrom_9 : decode cX6_heapTakenFrom 9 = .ok (.invokestatic 180, 3) := by decide +kernel
theorem dX6_heapTakenFrom_12 : decode cX6_heapTakenFrom 12 = .ok (.ifCond .eq 5, 3) := by decide +kernel
theorem dX6_heapTakenFrom_15 : decode cX6_heapTakenFrom 15 = .ok (.iload_n 2, 1) := by decide +kernel
theorem dX6_heapTakenFrom_16 : decode cX6_heapTakenFrom 16 = .ok (.ireturn, 1) := by decide +kernel
theorem dX6_heapTakenFrom_17 : decode cX6_heapTakenFrom 17 = .ok (.iinc 2 1, 3) := by decide +kernel
theorem dX6_heapTakenFrom_20 : decode cX6_heapTakenFrom 20 = .ok (.goto (-18), 3) := by decide +kernel
theorem dX6_heapTakenFrom_23 : decode cX6_heapTakenFrom 23 = .ok (.iconst (-1), 1) := by decide +kernel
theorem dX6_heapTakenFrom_24 : decode cX6_heapTakenFrom 24 = .ok (.ireturn, 1) := by decide +kernel
theorem dX7_init_0 : decode cX7_init 0 = .ok (.aload_n 0, 1) := by decide +kernel
theorem dX7_init_1 : decode cX7_init 1 = .ok (.invokespecial 1, 3) := by decide +kernel
theorem dX7_init_4 : decode cX7_init 4 = .ok (.aload_n 0, 1) := by decide +kernel
theorem dX7_init_5 : decode cX7_init 5 = .ok (.sipush 172, 3) := by decide +kernel
theorem dX7_init_8 : decode cX7_init 8 = .ok (.newarray .int, 2) := by decide +kernel
theorem dX7_init_10 : decode cX7_init 10 = .ok (.putfield 7, 3) := by decide +kernel
theorem dX7_init_13 : decode cX7_init 13 = .ok (.aload_n 0, 1) := by decide +kernel
theorem dX7_init_14 : decode cX7_init 14 = .ok (.sipush 172, 3) := by decide +kernel
theorem dX7_init_17 : decode cX7_init 17 = .ok (.newarray .int, 2) := by decide +kernel
theorem dX7_init_19 : decode cX7_init 19 = .ok (.putfield 13, 3) := by decide +kernel
theorem dX7_init_22 : decode cX7_init 22 = .ok (.aload_n 0, 1) := by decide +kernel
theorem dX7_init_23 : decode cX7_init 23 = .ok (.sipush 1720, 3) := by decide +kernel
theorem dX7_init_26 : decode cX7_init 26 = .ok (.newarray .int, 2) := by decide +kernel
theorem dX7_init_28 : decode cX7_init 28 = .ok (.putfield 16, 3) := by decide +kernel
theorem dX7_init_31 : decode cX7_init 31 = .ok (.aload_n 0, 1) := by decide +kernel
theorem dX7_init_32 : decode cX7_init 32 = .ok (.sipush 344, 3) := by decide +kernel
theorem dX7_init_35 : decode cX7_init 35 = .ok (.newarray .int, 2) := by decide +kernel
theorem dX7_init_37 : decode cX7_init 37 = .ok (.putfield 19, 3) := by decide +kernel
theorem dX7_init_40 : decode cX7_init 40 = .ok (.aload_n 0, 1) := by decide +kernel
theorem dX7_init_41 : decode cX7_init 41 = .ok (.iconst 2, 1) := by decide +kernel
theorem dX7_init_42 : decode cX7_init 42 = .ok (.newarray .boolean, 2) := by decide +kernel
theorem dX7_init_44 : decode cX7_init 44 = .ok (.putfield 22, 3) := by decide +kernel
theorem dX7_init_47 : decode cX7_init 47 = .ok (.aload_n 0, 1) := by decide +kernel
theorem dX7_init_48 : decode cX7_init 48 = .ok (.bipush 6, 2) := by decide +kernel
theorem dX7_init_50 : decode cX7_init 50 = .ok (.newarray .int, 2) := by decide +kernel
theorem dX7_init_52 : decode cX7_init 52 = .ok (.putfield 26, 3) := by decide +kernel
theorem dX7_init_55 : decode cX7_init 55 = .ok (.aload_n 0, 1) := by decide +kernel
theorem dX7_init_56 : decode cX7_init 56 = .ok (.bipush 6, 2) := by decide +kernel
theorem dX7_init_58 : decode cX7_init 58 = .ok (.newarray .int, 2) := by decide +kernel
theorem dX7_init_60 : decode cX7_init 60 = .ok (.putfield 29, 3) := by decide +kernel
theorem dX7_init_63 : decode cX7_init 63 = .ok (.aload_n 0, 1) := by decide +kernel
theorem dX7_init_64 : decode cX7_init 64 = .ok (.bipush 48, 2) := by decide +kernel
theorem dX7_init_66 : decode cX7_init 66 = .ok (.newarray .int, 2) := by decide +kernel
theorem dX7_init_68 : decode cX7_init 68 = .ok (.putfield 32, 3) := by decide +kernel
theorem dX7_init_71 : decode cX7_init 71 = .ok (.aload_n 0, 1) := by decide +kernel
theorem dX7_init_72 : decode cX7_init 72 = .ok (.bipush 6, 2) := by decide +kernel
theorem dX7_init_74 : decode cX7_init 74 = .ok (.newarray .int, 2) := by decide +kernel
theorem dX7_init_76 : decode cX7_init 76 = .ok (.putfield 35, 3) := by decide +kernel
theorem dX7_init_79 : decode cX7_init 79 = .ok (.aload_n 0, 1) := by decide +kernel
theorem dX7_init_80 : decode cX7_init 80 = .ok (.bipush 6, 2) := by decide +kernel
theorem dX7_init_82 : decode cX7_init 82 = .ok (.newarray .int, 2) := by decide +kernel
theorem dX7_init_84 : decode cX7_init 84 = .ok (.putfield 38, 3) := by decide +kernel
theorem dX7_init_87 : decode cX7_init 87 = .ok (.aload_n 0, 1) := by decide +kernel
theorem dX7_init_88 : decode cX7_init 88 = .ok (.bipush 48, 2) := by decide +kernel
theorem dX7_init_90 : decode cX7_init 90 = .ok (.newarray .int, 2) := by decide +kernel
theorem dX7_init_92 : decode cX7_init 92 = .ok (.putfield 41, 3) := by decide +kernel
theorem dX7_init_95 : decode cX7_init 95 = .ok (.aload_n 0, 1) := by decide +kernel
theorem dX7_init_96 : decode cX7_init 96 = .ok (.sipush 1806, 3) := by decide +kernel
theorem dX7_init_99 : decode cX7_init 99 = .ok (.newarray .int, 2) := by decide +kernel
theorem dX7_init_101 : decode cX7_init 101 = .ok (.putfield 44, 3) := by decide +kernel
theorem dX7_init_104 : decode cX7_init 104 = .ok (.aload_n 0, 1) := by decide +kernel
theorem dX7_init_105 : decode cX7_init 105 = .ok (.bipush 6, 2) := by decide +kernel
theorem dX7_init_107 : decode cX7_init 107 = .ok (.newarray .long, 2) := by decide +kernel
theorem dX7_init_109 : decode cX7_init 109 = .ok (.putfield 47, 3) := by decide +kernel
theorem dX7_init_112 : decode cX7_init 112 = .ok (.aload_n 0, 1) := by decide +kernel
theorem dX7_init_113 : decode cX7_init 113 = .ok (.bipush 6, 2) := by decide +kernel
theorem dX7_init_115 : decode cX7_init 115 = .ok (.newarray .long, 2) := by decide +kernel
theorem dX7_init_117 : decode cX7_init 117 = .ok (.putfield 51, 3) := by decide +kernel
theorem dX7_init_120 : decode cX7_init 120 = .ok (.aload_n 0, 1) := by decide +kernel
theorem dX7_init_121 : decode cX7_init 121 = .ok (.sipush 512, 3) := by decide +kernel
theorem dX7_init_124 : decode cX7_init 124 = .ok (.newarray .int, 2) := by decide +kernel
theorem dX7_init_126 : decode cX7_init 126 = .ok (.putfield 54, 3) := by decide +kernel
theorem dX7_init_129 : decode cX7_init 129 = .ok (.aload_n 0, 1) := by decide +kernel
theorem dX7_init_130 : decode cX7_init 130 = .ok (.bipush 96, 2) := by decide +kernel
theorem dX7_init_132 : decode cX7_init 132 = .ok (.newarray .int, 2) := by decide +kernel
theorem dX7_init_134 : decode cX7_init 134 = .ok (.putfield 57, 3) := by decide +kernel
theorem dX7_init_137 : decode cX7_init 137 = .ok (.aload_n 0, 1) := by decide +kernel
theorem dX7_init_138 : decode cX7_init 138 = .ok (.sipush 400, 3) := by decide +kernel
theorem dX7_init_141 : decode cX7_init 141 = .ok (.newarray .int, 2) := by decide +kernel
theorem dX7_init_143 : decode cX7_init 143 = .ok (.putfield 60, 3) := by decide +kernel
theorem dX7_init_146 : decode cX7_init 146 = .ok (.aload_n 0, 1) := by decide +kernel
theorem dX7_init_147 : decode cX7_init 147 = .ok (.bipush 8, 2) := by decide +kernel
theorem dX7_init_149 : decode cX7_init 149 = .ok (.newarray .int, 2) := by decide +kernel
theorem dX7_init_151 : decode cX7_init 151 = .ok (.putfield 63, 3) := by decide +kernel
theorem dX7_init_154 : decode cX7_init 154 = .ok (.aload_n 0, 1) := by decide +kernel
theorem dX7_init_155 : decode cX7_init 155 = .ok (.ldc 66, 2) := by decide +kernel
theorem dX7_init_157 : decode cX7_init 157 = .ok (.newarray .int, 2) := by decide +kernel
theorem dX7_init_159 : decode cX7_init 159 = .ok (.putfield 67, 3) := by decide +kernel
theorem dX7_init_162 : decode cX7_init 162 = .ok (.aload_n 0, 1) := by decide +kernel
theorem dX7_init_163 : decode cX7_init 163 = .ok (.iconst 4, 1) := by decide +kernel
theorem dX7_init_164 : decode cX7_init 164 = .ok (.newarray .int, 2) := by decide +kernel
theorem dX7_init_166 : decode cX7_init 166 = .ok (.putfield 70, 3) := by decide +kernel
theorem dX7_init_169 : decode cX7_init 169 = .ok (.return_, 1) := by decide +kernel
theorem dX7_thrown_0 : decode cX7_thrown 0 = .ok (.aload_n 0, 1) := by decide +kernel
theorem dX7_thrown_1 : decode cX7_thrown 1 = .ok (.getfield 73, 3) := by decide +kernel
theorem dX7_thrown_4 : decode cX7_thrown 4 = .ok (.ireturn, 1) := by decide +kernel
theorem dX7_may_0 : decode cX7_may 0 = .ok (.iload_n 1, 1) := by decide +kernel
theorem dX7_may_1 : decode cX7_may 1 = .ok (.ifCond .ne 15, 3) := by decide +kernel
theorem dX7_may_4 : decode cX7_may 4 = .ok (.aload_n 0, 1) := by decide +kernel
theorem dX7_may_5 : decode cX7_may 5 = .ok (.getfield 73, 3) := by decide +kernel
theorem dX7_may_8 : decode cX7_may 8 = .ok (.ifCond .ne 8, 3) := by decide +kernel
theorem dX7_may_11 : decode cX7_may 11 = .ok (.aload_n 0, 1) := by decide +kernel
theorem dX7_may_12 : decode cX7_may 12 = .ok (.iload_n 2, 1) := by decide +kernel
theorem dX7_may_13 : decode cX7_may 13 = .ok (.putfield 73, 3) := by decide +kernel
theorem dX7_may_16 : decode cX7_may 16 = .ok (.aload_n 0, 1) := by decide +kernel
theorem dX7_may_17 : decode cX7_may 17 = .ok (.getfield 73, 3) := by decide +kernel
theorem dX7_may_20 : decode cX7_may 20 = .ok (.ifCond .ne 7, 3) := by decide +kernel
theorem dX7_may_23 : decode cX7_may 23 = .ok (.iconst 1, 1) := by decide +kernel
theorem dX7_may_24 : decode cX7_may 24 = .ok (.goto 4, 3) := by decide +kernel
theorem dX7_may_27 : decode cX7_may 27 = .ok (.iconst 0, 1) := by decide +kernel
theorem dX7_may_28 : decode cX7_may 28 = .ok (.ireturn, 1) := by decide +kernel
theorem dX7_within_0 : decode cX7_within 0 = .ok (.iload_n 0, 1) := by decide +kernel
theorem dX7_within_1 : decode cX7_within 1 = .ok (.iload_n 1, 1) := by decide +kernel
theorem dX7_within_2 : decode cX7_within 2 = .ok (.if_icmp .lt 12, 3) := by decide +kernel
theorem dX7_within_5 : decode cX7_within 5 = .ok (.iload_n 0, 1) := by decide +kernel
theorem dX7_within_6 : decode cX7_within 6 = .ok (.iload_n 2, 1) := by decide +kernel
theorem dX7_within_7 : decode cX7_within 7 = .ok (.if_icmp .gt 7, 3) := by decide +kernel
theorem dX7_within_10 : decode cX7_within 10 = .ok (.iconst 1, 1) := by decide +kernel
theorem dX7_within_11 : decode cX7_within 11 = .ok (.goto 4, 3) := by decide +kernel
theorem dX7_within_14 : decode cX7_within 14 = .ok (.iconst 0, 1) := by decide +kernel
theorem dX7_within_15 : decode cX7_within 15 = .ok (.ireturn, 1) := by decide +kernel
theorem dX7_has_0 : decode cX7_has 0 = .ok (.iload_n 0, 1) := by decide +kernel
theorem dX7_has_1 : decode cX7_has 1 = .ok (.iload_n 1, 1) := by decide +kernel
theorem dX7_has_2 : decode cX7_has 2 = .ok (.ishr, 1) := by decide +kernel
theorem dX7_has_3 : decode cX7_has 3 = .ok (.iconst 1, 1) := by decide +kernel
theorem dX7_has_4 : decode cX7_has 4 = .ok (.iand, 1) := by decide +kernel
theorem dX7_has_5 : decode cX7_has 5 = .ok (.iconst 1, 1) := by decide +kernel
theorem dX7_has_6 : decode cX7_has 6 = .ok (.if_icmp .ne 7, 3) := by decide +kernel
theorem dX7_has_9 : decode cX7_has 9 = .ok (.iconst 1, 1) := by decide +kernel
theorem dX7_has_10 : decode cX7_has 10 = .ok (.goto 4, 3) := by decide +kernel
theorem dX7_has_13 : decode cX7_has 13 = .ok (.iconst 0, 1) := by decide +kernel
theorem dX7_has_14 : decode cX7_has 14 = .ok (.ireturn, 1) := by decide +kernel
theorem dX7_copies_0 : decode cX7_copies 0 = .ok (.iconst 0, 1) := by decide +kernel
theorem dX7_copies_1 : decode cX7_copies 1 = .ok (.istore 5, 2) := by decide +kernel
theorem dX7_copies_3 : decode cX7_copies 3 = .ok (.iload 5, 2) := by decide +kernel
theorem dX7_copies_5 : decode cX7_copies 5 = .ok (.iload 4, 2) := by decide +kernel
theorem dX7_copies_7 : decode cX7_copies 7 = .ok (.if_icmp .ge 21, 3) := by decide +kernel
theorem dX7_copies_10 : decode cX7_copies 10 = .ok (.aload_n 2, 1) := by decide +kernel
theorem dX7_copies_11 : decode cX7_copies 11 = .ok (.iload_n 3, 1) := by decide +kernel
theorem dX7_copies_12 : decode cX7_copies 12 = .ok (.iload 5, 2) := by decide +kernel
theorem dX7_copies_14 : decode cX7_copies 14 = .ok (.iadd, 1) := by decide +kernel
theorem dX7_copies_15 : decode cX7_copies 15 = .ok (.aload_n 0, 1) := by decide +kernel
theorem dX7_copies_16 : decode cX7_copies 16 = .ok (.iload_n 1, 1) := by decide +kernel
theorem dX7_copies_17 : decode cX7_copies 17 = .ok (.iload 5, 2) := by decide +kernel
theorem dX7_copies_19 : decode cX7_copies 19 = .ok (.iadd, 1) := by decide +kernel
theorem dX7_copies_20 : decode cX7_copies 20 = .ok (.iaload, 1) := by decide +kernel
theorem dX7_copies_21 : decode cX7_copies 21 = .ok (.iastore, 1) := by decide +kernel
theorem dX7_copies_22 : decode cX7_copies 22 = .ok (.iinc 5 1, 3) := by decide +kernel
theorem dX7_copies_25 : decode cX7_copies 25 = .ok (.goto (-22), 3) := by decide +kernel
theorem dX7_copies_28 : decode cX7_copies 28 = .ok (.return_, 1) := by decide +kernel
theorem dX7_isOfSet_0 : decode cX7_isOfSet 0 = .ok (.iconst 0, 1) := by decide +kernel
theorem dX7_isOfSet_1 : decode cX7_isOfSet 1 = .ok (.istore_n 3, 1) := by decide +kernel
theorem dX7_isOfSet_2 : decode cX7_isOfSet 2 = .ok (.iload_n 3, 1) := by decide +kernel
theorem dX7_isOfSet_3 : decode cX7_isOfSet 3 = .ok (.aload_n 0, 1) := by decide +kernel
theorem dX7_isOfSet_4 : decode cX7_isOfSet 4 = .ok (.getfield 29, 3) := by decide +kernel
theorem dX7_isOfSet_7 : decode cX7_isOfSet 7 = .ok (.iload_n 1, 1) := by decide +kernel
theorem dX7_isOfSet_8 : decode cX7_isOfSet 8 = .ok (.iaload, 1) := by decide +kernel
theorem dX7_isOfSet_9 : decode cX7_isOfSet 9 = .ok (.if_icmp .ge 26, 3) := by decide +kernel
theorem dX7_isOfSet_12 : decode cX7_isOfSet 12 = .ok (.aload_n 0, 1) := by decide +kernel
theorem dX7_isOfSet_13 : decode cX7_isOfSet 13 = .ok (.getfield 32, 3) := by decide +kernel
theorem dX7_isOfSet_16 : decode cX7_isOfSet 16 = .ok (.bipush 8, 2) := by decide +kernel
theorem dX7_isOfSet_18 : decode cX7_isOfSet 18 = .ok (.iload_n 1, 1) := by decide +kernel
theorem dX7_isOfSet_19 : decode cX7_isOfSet 19 = .ok (.imul, 1) := by decide +kernel
theorem dX7_isOfSet_20 : decode cX7_isOfSet 20 = .ok (.iload_n 3, 1) := by decide +kernel
theorem dX7_isOfSet_21 : decode cX7_isOfSet 21 = .ok (.iadd, 1) := by decide +kernel
theorem dX7_isOfSet_22 : decode cX7_isOfSet 22 = .ok (.iaload, 1) := by decide +kernel
theorem dX7_isOfSet_23 : decode cX7_isOfSet 23 = .ok (.iload_n 2, 1) := by decide +kernel
theorem dX7_isOfSet_24 : decode cX7_isOfSet 24 = .ok (.if_icmp .ne 5, 3) := by decide +kernel
theorem dX7_isOfSet_27 : decode cX7_isOfSet 27 = .ok (.iconst 1, 1) := by decide +kernel
theorem dX7_isOfSet_28 : decode cX7_isOfSet 28 = .ok (.ireturn, 1) := by decide +kernel
theorem dX7_isOfSet_29 : decode cX7_isOfSet 29 = .ok (.iinc 3 1, 3) := by decide +kernel
theorem dX7_isOfSet_32 : decode cX7_isOfSet 32 = .ok (.goto (-30), 3) := by decide +kernel
theorem dX7_isOfSet_35 : decode cX7_isOfSet 35 = .ok (.iconst 0, 1) := by decide +kernel
theorem dX7_isOfSet_36 : decode cX7_isOfSet 36 = .ok (.ireturn, 1) := by decide +kernel
theorem dX7_isPower_0 : decode cX7_isPower 0 = .ok (.iload_n 0, 1) := by decide +kernel
theorem dX7_isPower_1 : decode cX7_isPower 1 = .ok (.iload_n 0, 1) := by decide +kernel
theorem dX7_isPower_2 : decode cX7_isPower 2 = .ok (.iconst 1, 1) := by decide +kernel
theorem dX7_isPower_3 : decode cX7_isPower 3 = .ok (.isub, 1) := by decide +kernel
theorem dX7_isPower_4 : decode cX7_isPower 4 = .ok (.iand, 1) := by decide +kernel
theorem dX7_isPower_5 : decode cX7_isPower 5 = .ok (.ifCond .ne 7, 3) := by decide +kernel
theorem dX7_isPower_8 : decode cX7_isPower 8 = .ok (.iconst 1, 1) := by decide +kernel
theorem dX7_isPower_9 : decode cX7_isPower 9 = .ok (.goto 4, 3) := by decide +kernel
theorem dX7_isPower_12 : decode cX7_isPower 12 = .ok (.iconst 0, 1) := by decide +kernel
theorem dX7_isPower_13 : decode cX7_isPower 13 = .ok (.ireturn, 1) := by decide +kernel
theorem dX7_isSquare_0 : decode cX7_isSquare 0 = .ok (.iconst 1, 1) := by decide +kernel
theorem dX7_isSquare_1 : decode cX7_isSquare 1 = .ok (.istore_n 1, 1) := by decide +kernel
theorem dX7_isSquare_2 : decode cX7_isSquare 2 = .ok (.iload_n 1, 1) := by decide +kernel
theorem dX7_isSquare_3 : decode cX7_isSquare 3 = .ok (.iload_n 1, 1) := by decide +kernel
theorem dX7_isSquare_4 : decode cX7_isSquare 4 = .ok (.imul, 1) := by decide +kernel
theorem dX7_isSquare_5 : decode cX7_isSquare 5 = .ok (.iload_n 0, 1) := by decide +kernel
theorem dX7_isSquare_6 : decode cX7_isSquare 6 = .ok (.if_icmp .ge 9, 3) := by decide +kernel
theorem dX7_isSquare_9 : decode cX7_isSquare 9 = .ok (.iinc 1 1, 3) := by decide +kernel
theorem dX7_isSquare_12 : decode cX7_isSquare 12 = .ok (.goto (-10), 3) := by decide +kernel
theorem dX7_isSquare_15 : decode cX7_isSquare 15 = .ok (.iload_n 1, 1) := by decide +kernel
theorem dX7_isSquare_16 : decode cX7_isSquare 16 = .ok (.iload_n 1, 1) := by decide +kernel
theorem dX7_isSquare_17 : decode cX7_isSquare 17 = .ok (.imul, 1) := by decide +kernel
theorem dX7_isSquare_18 : decode cX7_isSquare 18 = .ok (.iload_n 0, 1) := by decide +kernel
theorem dX7_isSquare_19 : decode cX7_isSquare 19 = .ok (.if_icmp .ne 7, 3) := by decide +kernel
theorem dX7_isSquare_22 : decode cX7_isSquare 22 = .ok (.iconst 1, 1) := by decide +kernel
theorem dX7_isSquare_23 : decode cX7_isSquare 23 = .ok (.goto 4, 3) := by decide +kernel
theorem dX7_isSquare_26 : decode cX7_isSquare 26 = .ok (.iconst 0, 1) := by decide +kernel
theorem dX7_isSquare_27 : decode cX7_isSquare 27 = .ok (.ireturn, 1) := by decide +kernel
theorem dX7_allows_0 : decode cX7_allows 0 = .ok (.iload_n 3, 1) := by decide +kernel
theorem dX7_allows_1 : decode cX7_allows 1 = .ok (.iconst 1, 1) := by decide +kernel
theorem dX7_allows_2 : decode cX7_allows 2 = .ok (.iload_n 2, 1) := by decide +kernel
theorem dX7_allows_3 : decode cX7_allows 3 = .ok (.invokestatic 77, 3) := by decide +kernel
theorem dX7_allows_6 : decode cX7_allows 6 = .ok (.ifCond .ne 5, 3) := by decide +kernel
theorem dX7_allows_9 : decode cX7_allows 9 = .ok (.iconst 0, 1) := by decide +kernel
theorem dX7_allows_10 : decode cX7_allows 10 = .ok (.ireturn, 1) := by decide +kernel
theorem dX7_allows_11 : decode cX7_allows 11 = .ok (.aload_n 0, 1) := by decide +kernel
theorem dX7_allows_12 : decode cX7_allows 12 = .ok (.getfield 26, 3) := by decide +kernel
theorem dX7_allows_15 : decode cX7_allows 15 = .ok (.iload_n 1, 1) := by decide +kernel
theorem dX7_allows_16 : decode cX7_allows 16 = .ok (.iaload, 1) := by decide +kernel
theorem dX7_allows_17 : decode cX7_allows 17 = .ok (.tableswitch 73 0 3 #[31, 38, 55, 68], 31) := by decide +kernel
theorem dX7_allows_48 : decode cX7_allows 48 = .ok (.aload_n 0, 1) := by decide +kernel
theorem dX7_allows_49 : decode cX7_allows 49 = .ok (.iload_n 1, 1) := by decide +kernel
theorem dX7_allows_50 : decode cX7_allows 50 = .ok (.iload_n 3, 1) := by decide +kernel
theorem dX7_allows_51 : decode cX7_allows 51 = .ok (.invokevirtual 81, 3) := by decide +kernel
theorem dX7_allows_54 : decode cX7_allows 54 = .ok (.ireturn, 1) := by decide +kernel
theorem dX7_allows_55 : decode cX7_allows 55 = .ok (.iload_n 3, 1) := by decide +kernel
theorem dX7_allows_56 : decode cX7_allows 56 = .ok (.iload_n 2, 1) := by decide +kernel
theorem dX7_allows_57 : decode cX7_allows 57 = .ok (.if_icmp .ge 13, 3) := by decide +kernel
theorem dX7_allows_60 : decode cX7_allows 60 = .ok (.iload_n 2, 1) := by decide +kernel
theorem dX7_allows_61 : decode cX7_allows 61 = .ok (.iload_n 3, 1) := by decide +kernel
theorem dX7_allows_62 : decode cX7_allows 62 = .ok (.irem, 1) := by decide +kernel
theorem dX7_allows_63 : decode cX7_allows 63 = .ok (.ifCond .ne 7, 3) := by decide +kernel
theorem dX7_allows_66 : decode cX7_allows 66 = .ok (.iconst 1, 1) := by decide +kernel
theorem dX7_allows_67 : decode cX7_allows 67 = .ok (.goto 4, 3) := by decide +kernel
theorem dX7_allows_70 : decode cX7_allows 70 = .ok (.iconst 0, 1) := by decide +kernel
theorem dX7_allows_71 : decode cX7_allows 71 = .ok (.ireturn, 1) := by decide +kernel
theorem dX7_allows_72 : decode cX7_allows 72 = .ok (.iload_n 3, 1) := by decide +kernel
theorem dX7_allows_73 : decode cX7_allows 73 = .ok (.iload_n 2, 1) := by decide +kernel
theorem dX7_allows_74 : decode cX7_allows 74 = .ok (.iconst 2, 1) := by decide +kernel
theorem dX7_allows_75 : decode cX7_allows 75 = .ok (.idiv, 1) := by decide +kernel
theorem dX7_allows_76 : decode cX7_allows 76 = .ok (.if_icmp .gt 7, 3) := by decide +kernel
theorem dX7_allows_79 : decode cX7_allows 79 = .ok (.iconst 1, 1) := by decide +kernel
theorem dX7_allows_80 : decode cX7_allows 80 = .ok (.goto 4, 3) := by decide +kernel
theorem dX7_allows_83 : decode cX7_allows 83 = .ok (.iconst 0, 1) := by decide +kernel
theorem dX7_allows_84 : decode cX7_allows 84 = .ok (.ireturn, 1) := by decide +kernel
theorem dX7_allows_85 : decode cX7_allows 85 = .ok (.iload_n 3, 1) := by decide +kernel
theorem dX7_allows_86 : decode cX7_allows 86 = .ok (.invokestatic 85, 3) := by decide +kernel
theorem dX7_allows_89 : decode cX7_allows 89 = .ok (.ireturn, 1) := by decide +kernel
theorem dX7_allows_90 : decode cX7_allows 90 = .ok (.iload_n 3, 1) := by decide +kernel
theorem dX7_allows_91 : decode cX7_allows 91 = .ok (.invokestatic 89, 3) := by decide +kernel
theorem dX7_allows_94 : decode cX7_allows 94 = .ok (.ireturn, 1) := by decide +kernel
theorem dX7_amountsAt_0 : decode cX7_amountsAt 0 = .ok (.iconst 0, 1) := by decide +kernel
theorem dX7_amountsAt_1 : decode cX7_amountsAt 1 = .ok (.istore_n 3, 1) := by decide +kernel
theorem dX7_amountsAt_2 : decode cX7_amountsAt 2 = .ok (.iconst 1, 1) := by decide +kernel
theorem dX7_amountsAt_3 : decode cX7_amountsAt 3 = .ok (.istore 4, 2) := by decide +kernel
theorem dX7_amountsAt_5 : decode cX7_amountsAt 5 = .ok (.iload 4, 2) := by decide +kernel
theorem dX7_amountsAt_7 : decode cX7_amountsAt 7 = .ok (.iload_n 2, 1) := by decide +kernel
theorem dX7_amountsAt_8 : decode cX7_amountsAt 8 = .ok (.if_icmp .gt 28, 3) := by decide +kernel
theorem dX7_amountsAt_11 : decode cX7_amountsAt 11 = .ok (.iload_n 3, 1) := by decide +kernel
theorem dX7_amountsAt_12 : decode cX7_amountsAt 12 = .ok (.aload_n 0, 1) := by decide +kernel
theorem dX7_amountsAt_13 : decode cX7_amountsAt 13 = .ok (.iload_n 1, 1) := by decide +kernel
theorem dX7_amountsAt_14 : decode cX7_amountsAt 14 = .ok (.iload_n 2, 1) := by decide +kernel
theorem dX7_amountsAt_15 : decode cX7_amountsAt 15 = .ok (.iload 4, 2) := by decide +kernel
theorem dX7_amountsAt_17 : decode cX7_amountsAt 17 = .ok (.invokevirtual 92, 3) := by decide +kernel
theorem dX7_amountsAt_20 : decode cX7_amountsAt 20 = .ok (.ifCond .eq 7, 3) := by decide +kernel
theorem dX7_amountsAt_23 : decode cX7_amountsAt 23 = .ok (.iconst 1, 1) := by decide +kernel
theorem dX7_amountsAt_24 : decode cX7_amountsAt 24 = .ok (.goto 4, 3) := by decide +kernel
theorem dX7_amountsAt_27 : decode cX7_amountsAt 27 = .ok (.iconst 0, 1) := by decide +kernel
theorem dX7_amountsAt_28 : decode cX7_amountsAt 28 = .ok (.iadd, 1) := by decide +kernel
theorem dX7_amountsAt_29 : decode cX7_amountsAt 29 = .ok (.istore_n 3, 1) := by decide +kernel
theorem dX7_amountsAt_30 : decode cX7_amountsAt 30 = .ok (.iinc 4 1, 3) := by decide +kernel
theorem dX7_amountsAt_33 : decode cX7_amountsAt 33 = .ok (.goto (-28), 3) := by decide +kernel
theorem dX7_amountsAt_36 : decode cX7_amountsAt 36 = .ok (.iload_n 3, 1) := by decide +kernel
theorem dX7_amountsAt_37 : decode cX7_amountsAt 37 = .ok (.ireturn, 1) := by decide +kernel
theorem dX7_leastUnmet_0 : decode cX7_leastUnmet 0 = .ok (.iconst 0, 1) := by decide +kernel
theorem dX7_leastUnmet_1 : decode cX7_leastUnmet 1 = .ok (.istore_n 1, 1) := by decide +kernel
theorem dX7_leastUnmet_2 : decode cX7_leastUnmet 2 = .ok (.aload_n 0, 1) := by decide +kernel
theorem dX7_leastUnmet_3 : decode cX7_leastUnmet 3 = .ok (.getfield 54, 3) := by decide +kernel
theorem dX7_leastUnmet_6 : decode cX7_leastUnmet 6 = .ok (.iload_n 1, 1) := by decide +kernel
theorem dX7_leastUnmet_7 : decode cX7_leastUnmet 7 = .ok (.iaload, 1) := by decide +kernel
theorem dX7_leastUnmet_8 : decode cX7_leastUnmet 8 = .ok (.aload_n 0, 1) := by decide +kernel
theorem dX7_leastUnmet_9 : decode cX7_leastUnmet 9 = .ok (.getfield 95, 3) := by decide +kernel
theorem dX7_leastUnmet_12 : decode cX7_leastUnmet 12 = .ok (.if_icmp .ne 9, 3) := by decide +kernel
theorem dX7_leastUnmet_15 : decode cX7_leastUnmet 15 = .ok (.iinc 1 1, 3) := by decide +kernel
theorem dX7_leastUnmet_18 : decode cX7_leastUnmet 18 = .ok (.goto (-16), 3) := by decide +kernel
theorem dX7_leastUnmet_21 : decode cX7_leastUnmet 21 = .ok (.iload_n 1, 1) := by decide +kernel
theorem dX7_leastUnmet_22 : decode cX7_leastUnmet 22 = .ok (.ireturn, 1) := by decide +kernel
theorem dX7_valueOf_0 : decode cX7_valueOf 0 = .ok (.aload_n 0, 1) := by decide +kernel
theorem dX7_valueOf_1 : decode cX7_valueOf 1 = .ok (.getfield 44, 3) := by decide +kernel
theorem dX7_valueOf_4 : decode cX7_valueOf 4 = .ok (.sipush 301, 3) := by decide +kernel
theorem dX7_valueOf_7 : decode cX7_valueOf 7 = .ok (.iload_n 1, 1) := by decide +kernel
theorem dX7_valueOf_8 : decode cX7_valueOf 8 = .ok (.imul, 1) := by decide +kernel
theorem dX7_valueOf_9 : decode cX7_valueOf 9 = .ok (.iload_n 2, 1) := by decide +kernel
theorem dX7_valueOf_10 : decode cX7_valueOf 10 = .ok (.iadd, 1) := by decide +kernel
theorem dX7_valueOf_11 : decode cX7_valueOf 11 = .ok (.iaload, 1) := by decide +kernel
theorem dX7_valueOf_12 : decode cX7_valueOf 12 = .ok (.ireturn, 1) := by decide +kernel
theorem dX7_laysValues_0 : decode cX7_laysValues 0 = .ok (.iconst 0, 1) := by decide +kernel
theorem dX7_laysValues_1 : decode cX7_laysValues 1 = .ok (.istore_n 1, 1) := by decide +kernel
theorem dX7_laysValues_2 : decode cX7_laysValues 2 = .ok (.iload_n 1, 1) := by decide +kernel
theorem dX7_laysValues_3 : decode cX7_laysValues 3 = .ok (.aload_n 0, 1) := by decide +kernel
theorem dX7_laysValues_4 : decode cX7_laysValues 4 = .ok (.getfield 98, 3) := by decide +kernel
theorem dX7_laysValues_7 : decode cX7_laysValues 7 = .ok (.if_icmp .ge 156, 3) := by decide +kernel
theorem dX7_laysValues_10 : decode cX7_laysValues 10 = .ok (.iconst 0, 1) := by decide +kernel
theorem dX7_laysValues_11 : decode cX7_laysValues 11 = .ok (.istore_n 2, 1) := by decide +kernel
theorem dX7_laysValues_12 : decode cX7_laysValues 12 = .ok (.iload_n 2, 1) := by decide +kernel
theorem dX7_laysValues_13 : decode cX7_laysValues 13 = .ok (.sipush 300, 3) := by decide +kernel
theorem dX7_laysValues_16 : decode cX7_laysValues 16 = .ok (.if_icmp .gt 75, 3) := by decide +kernel
theorem dX7_laysValues_19 : decode cX7_laysValues 19 = .ok (.aload_n 0, 1) := by decide +kernel
theorem dX7_laysValues_20 : decode cX7_laysValues 20 = .ok (.dup, 1) := by decide +kernel
theorem dX7_laysValues_21 : decode cX7_laysValues 21 = .ok (.getfield 95, 3) := by decide +kernel
theorem dX7_laysValues_24 : decode cX7_laysValues 24 = .ok (.iconst 1, 1) := by decide +kernel
theorem dX7_laysValues_25 : decode cX7_laysValues 25 = .ok (.iadd, 1) := by decide +kernel
theorem dX7_laysValues_26 : decode cX7_laysValues 26 = .ok (.putfield 95, 3) := by decide +kernel
theorem dX7_laysValues_29 : decode cX7_laysValues 29 = .ok (.iconst 1, 1) := by decide +kernel
theorem dX7_laysValues_30 : decode cX7_laysValues 30 = .ok (.istore_n 3, 1) := by decide +kernel
theorem dX7_laysValues_31 : decode cX7_laysValues 31 = .ok (.iload_n 3, 1) := by decide +kernel
theorem dX7_laysValues_32 : decode cX7_laysValues 32 = .ok (.iload_n 2, 1) := by decide +kernel
theorem dX7_laysValues_33 : decode cX7_laysValues 33 = .ok (.if_icmp .gt 36, 3) := by decide +kernel
theorem dX7_laysValues_36 : decode cX7_laysValues 36 = .ok (.aload_n 0, 1) := by decide +kernel
theorem dX7_laysValues_37 : decode cX7_laysValues 37 = .ok (.iload_n 1, 1) := by decide +kernel
