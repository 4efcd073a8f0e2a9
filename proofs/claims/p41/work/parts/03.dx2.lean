theorem dX4_copyFrom_33 : decode cX4_copyFrom 33 = .ok (.aload_n 1, 1) := by decide +kernel
theorem dX4_copyFrom_34 : decode cX4_copyFrom 34 = .ok (.getfield 29, 3) := by decide +kernel
theorem dX4_copyFrom_37 : decode cX4_copyFrom 37 = .ok (.putfield 29, 3) := by decide +kernel
theorem dX4_copyFrom_40 : decode cX4_copyFrom 40 = .ok (.aload_n 1, 1) := by decide +kernel
theorem dX4_copyFrom_41 : decode cX4_copyFrom 41 = .ok (.getfield 9, 3) := by decide +kernel
theorem dX4_copyFrom_44 : decode cX4_copyFrom 44 = .ok (.iconst 0, 1) := by decide +kernel
theorem dX4_copyFrom_45 : decode cX4_copyFrom 45 = .ok (.aload_n 0, 1) := by decide +kernel
theorem dX4_copyFrom_46 : decode cX4_copyFrom 46 = .ok (.getfield 9, 3) := by decide +kernel
theorem dX4_copyFrom_49 : decode cX4_copyFrom 49 = .ok (.iconst 0, 1) := by decide +kernel
theorem dX4_copyFrom_50 : decode cX4_copyFrom 50 = .ok (.bipush 40, 2) := by decide +kernel
theorem dX4_copyFrom_52 : decode cX4_copyFrom 52 = .ok (.invokestatic 32, 3) := by decide +kernel
theorem dX4_copyFrom_55 : decode cX4_copyFrom 55 = .ok (.return_, 1) := by decide +kernel
theorem dX4_addLast_0 : decode cX4_addLast 0 = .ok (.aload_n 0, 1) := by decide +kernel
theorem dX4_addLast_1 : decode cX4_addLast 1 = .ok (.aload_n 0, 1) := by decide +kernel
theorem dX4_addLast_2 : decode cX4_addLast 2 = .ok (.getfield 19, 3) := by decide +kernel
theorem dX4_addLast_5 : decode cX4_addLast 5 = .ok (.aload_n 0, 1) := by decide +kernel
theorem dX4_addLast_6 : decode cX4_addLast 6 = .ok (.getfield 15, 3) := by decide +kernel
theorem dX4_addLast_9 : decode cX4_addLast 9 = .ok (.iload_n 1, 1) := by decide +kernel
theorem dX4_addLast_10 : decode cX4_addLast 10 = .ok (.invokestatic 38, 3) := by decide +kernel
theorem dX4_addLast_13 : decode cX4_addLast 13 = .ok (.putfield 19, 3) := by decide +kernel
theorem dX4_addLast_16 : decode cX4_addLast 16 = .ok (.aload_n 0, 1) := by decide +kernel
theorem dX4_addLast_17 : decode cX4_addLast 17 = .ok (.aload_n 0, 1) := by decide +kernel
theorem dX4_addLast_18 : decode cX4_addLast 18 = .ok (.getfield 22, 3) := by decide +kernel
theorem dX4_addLast_21 : decode cX4_addLast 21 = .ok (.aload_n 0, 1) := by decide +kernel
theorem dX4_addLast_22 : decode cX4_addLast 22 = .ok (.getfield 15, 3) := by decide +kernel
theorem dX4_addLast_25 : decode cX4_addLast 25 = .ok (.iload_n 2, 1) := by decide +kernel
theorem dX4_addLast_26 : decode cX4_addLast 26 = .ok (.invokestatic 38, 3) := by decide +kernel
theorem dX4_addLast_29 : decode cX4_addLast 29 = .ok (.putfield 22, 3) := by decide +kernel
theorem dX4_addLast_32 : decode cX4_addLast 32 = .ok (.aload_n 0, 1) := by decide +kernel
theorem dX4_addLast_33 : decode cX4_addLast 33 = .ok (.dup, 1) := by decide +kernel
theorem dX4_addLast_34 : decode cX4_addLast 34 = .ok (.getfield 15, 3) := by decide +kernel
theorem dX4_addLast_37 : decode cX4_addLast 37 = .ok (.iconst 1, 1) := by decide +kernel
theorem dX4_addLast_38 : decode cX4_addLast 38 = .ok (.iadd, 1) := by decide +kernel
theorem dX4_addLast_39 : decode cX4_addLast 39 = .ok (.putfield 15, 3) := by decide +kernel
theorem dX4_addLast_42 : decode cX4_addLast 42 = .ok (.aload_n 0, 1) := by decide +kernel
theorem dX4_addLast_43 : decode cX4_addLast 43 = .ok (.getfield 15, 3) := by decide +kernel
theorem dX4_addLast_46 : decode cX4_addLast 46 = .ok (.iconst 1, 1) := by decide +kernel
theorem dX4_addLast_47 : decode cX4_addLast 47 = .ok (.isub, 1) := by decide +kernel
theorem dX4_addLast_48 : decode cX4_addLast 48 = .ok (.ireturn, 1) := by decide +kernel
theorem dX4_addPlayed_0 : decode cX4_addPlayed 0 = .ok (.aload_n 0, 1) := by decide +kernel
theorem dX4_addPlayed_1 : decode cX4_addPlayed 1 = .ok (.getfield 29, 3) := by decide +kernel
theorem dX4_addPlayed_4 : decode cX4_addPlayed 4 = .ok (.ifCond .lt 32, 3) := by decide +kernel
theorem dX4_addPlayed_7 : decode cX4_addPlayed 7 = .ok (.aload_n 0, 1) := by decide +kernel
theorem dX4_addPlayed_8 : decode cX4_addPlayed 8 = .ok (.getfield 29, 3) := by decide +kernel
theorem dX4_addPlayed_11 : decode cX4_addPlayed 11 = .ok (.bipush 40, 2) := by decide +kernel
theorem dX4_addPlayed_13 : decode cX4_addPlayed 13 = .ok (.if_icmp .ge 23, 3) := by decide +kernel
theorem dX4_addPlayed_16 : decode cX4_addPlayed 16 = .ok (.aload_n 0, 1) := by decide +kernel
theorem dX4_addPlayed_17 : decode cX4_addPlayed 17 = .ok (.getfield 9, 3) := by decide +kernel
theorem dX4_addPlayed_20 : decode cX4_addPlayed 20 = .ok (.aload_n 0, 1) := by decide +kernel
theorem dX4_addPlayed_21 : decode cX4_addPlayed 21 = .ok (.getfield 29, 3) := by decide +kernel
theorem dX4_addPlayed_24 : decode cX4_addPlayed 24 = .ok (.iload_n 1, 1) := by decide +kernel
theorem dX4_addPlayed_25 : decode cX4_addPlayed 25 = .ok (.iastore, 1) := by decide +kernel
theorem dX4_addPlayed_26 : decode cX4_addPlayed 26 = .ok (.aload_n 0, 1) := by decide +kernel
theorem dX4_addPlayed_27 : decode cX4_addPlayed 27 = .ok (.dup, 1) := by decide +kernel
theorem dX4_addPlayed_28 : decode cX4_addPlayed 28 = .ok (.getfield 29, 3) := by decide +kernel
theorem dX4_addPlayed_31 : decode cX4_addPlayed 31 = .ok (.iconst 1, 1) := by decide +kernel
theorem dX4_addPlayed_32 : decode cX4_addPlayed 32 = .ok (.iadd, 1) := by decide +kernel
theorem dX4_addPlayed_33 : decode cX4_addPlayed 33 = .ok (.putfield 29, 3) := by decide +kernel
theorem dX4_addPlayed_36 : decode cX4_addPlayed 36 = .ok (.return_, 1) := by decide +kernel
theorem dX4_playedAt_0 : decode cX4_playedAt 0 = .ok (.iload_n 1, 1) := by decide +kernel
theorem dX4_playedAt_1 : decode cX4_playedAt 1 = .ok (.ifCond .lt 18, 3) := by decide +kernel
theorem dX4_playedAt_4 : decode cX4_playedAt 4 = .ok (.iload_n 1, 1) := by decide +kernel
theorem dX4_playedAt_5 : decode cX4_playedAt 5 = .ok (.bipush 40, 2) := by decide +kernel
theorem dX4_playedAt_7 : decode cX4_playedAt 7 = .ok (.if_icmp .ge 12, 3) := by decide +kernel
theorem dX4_playedAt_10 : decode cX4_playedAt 10 = .ok (.aload_n 0, 1) := by decide +kernel
theorem dX4_playedAt_11 : decode cX4_playedAt 11 = .ok (.getfield 9, 3) := by decide +kernel
theorem dX4_playedAt_14 : decode cX4_playedAt 14 = .ok (.iload_n 1, 1) := by decide +kernel
theorem dX4_playedAt_15 : decode cX4_playedAt 15 = .ok (.iaload, 1) := by decide +kernel
theorem dX4_playedAt_16 : decode cX4_playedAt 16 = .ok (.goto 4, 3) := by decide +kernel
theorem dX4_playedAt_19 : decode cX4_playedAt 19 = .ok (.iconst 0, 1) := by decide +kernel
theorem dX4_playedAt_20 : decode cX4_playedAt 20 = .ok (.ireturn, 1) := by decide +kernel
theorem dX5_init_0 : decode cX5_init 0 = .ok (.aload_n 0, 1) := by decide +kernel
theorem dX5_init_1 : decode cX5_init 1 = .ok (.invokespecial 3, 3) := by decide +kernel
theorem dX5_init_4 : decode cX5_init 4 = .ok (.aload_n 0, 1) := by decide +kernel
theorem dX5_init_5 : decode cX5_init 5 = .ok (.sipush 400, 3) := by decide +kernel
theorem dX5_init_8 : decode cX5_init 8 = .ok (.newarray .byte, 2) := by decide +kernel
theorem dX5_init_10 : decode cX5_init 10 = .ok (.putfield 9, 3) := by decide +kernel
theorem dX5_init_13 : decode cX5_init 13 = .ok (.aload_n 0, 1) := by decide +kernel
theorem dX5_init_14 : decode cX5_init 14 = .ok (.iconst 0, 1) := by decide +kernel
theorem dX5_init_15 : decode cX5_init 15 = .ok (.putfield 15, 3) := by decide +kernel
theorem dX5_init_18 : decode cX5_init 18 = .ok (.aload_n 0, 1) := by decide +kernel
theorem dX5_init_19 : decode cX5_init 19 = .ok (.new 19, 3) := by decide +kernel
theorem dX5_init_22 : decode cX5_init 22 = .ok (.dup, 1) := by decide +kernel
theorem dX5_init_23 : decode cX5_init 23 = .ok (.invokespecial 21, 3) := by decide +kernel
theorem dX5_init_26 : decode cX5_init 26 = .ok (.putfield 22, 3) := by decide +kernel
theorem dX5_init_29 : decode cX5_init 29 = .ok (.return_, 1) := by decide +kernel
theorem dX5_addBytes_0 : decode cX5_addBytes 0 = .ok (.bipush 24, 2) := by decide +kernel
theorem dX5_addBytes_2 : decode cX5_addBytes 2 = .ok (.istore_n 2, 1) := by decide +kernel
theorem dX5_addBytes_3 : decode cX5_addBytes 3 = .ok (.iload_n 2, 1) := by decide +kernel
theorem dX5_addBytes_4 : decode cX5_addBytes 4 = .ok (.ifCond .lt 44, 3) := by decide +kernel
theorem dX5_addBytes_7 : decode cX5_addBytes 7 = .ok (.aload_n 0, 1) := by decide +kernel
theorem dX5_addBytes_8 : decode cX5_addBytes 8 = .ok (.getfield 15, 3) := by decide +kernel
theorem dX5_addBytes_11 : decode cX5_addBytes 11 = .ok (.aload_n 0, 1) := by decide +kernel
theorem dX5_addBytes_12 : decode cX5_addBytes 12 = .ok (.getfield 9, 3) := by decide +kernel
theorem dX5_addBytes_15 : decode cX5_addBytes 15 = .ok (.arraylength, 1) := by decide +kernel
theorem dX5_addBytes_16 : decode cX5_addBytes 16 = .ok (.if_icmp .ge 32, 3) := by decide +kernel
theorem dX5_addBytes_19 : decode cX5_addBytes 19 = .ok (.aload_n 0, 1) := by decide +kernel
theorem dX5_addBytes_20 : decode cX5_addBytes 20 = .ok (.getfield 9, 3) := by decide +kernel
theorem dX5_addBytes_23 : decode cX5_addBytes 23 = .ok (.aload_n 0, 1) := by decide +kernel
theorem dX5_addBytes_24 : decode cX5_addBytes 24 = .ok (.getfield 15, 3) := by decide +kernel
theorem dX5_addBytes_27 : decode cX5_addBytes 27 = .ok (.iload_n 1, 1) := by decide +kernel
theorem dX5_addBytes_28 : decode cX5_addBytes 28 = .ok (.iload_n 2, 1) := by decide +kernel
theorem dX5_addBytes_29 : decode cX5_addBytes 29 = .ok (.ishr, 1) := by decide +kernel
theorem dX5_addBytes_30 : decode cX5_addBytes 30 = .ok (.i2b, 1) := by decide +kernel
theorem dX5_addBytes_31 : decode cX5_addBytes 31 = .ok (.bastore, 1) := by decide +kernel
theorem dX5_addBytes_32 : decode cX5_addBytes 32 = .ok (.aload_n 0, 1) := by decide +kernel
theorem dX5_addBytes_33 : decode cX5_addBytes 33 = .ok (.dup, 1) := by decide +kernel
theorem dX5_addBytes_34 : decode cX5_addBytes 34 = .ok (.getfield 15, 3) := by decide +kernel
theorem dX5_addBytes_37 : decode cX5_addBytes 37 = .ok (.iconst 1, 1) := by decide +kernel
theorem dX5_addBytes_38 : decode cX5_addBytes 38 = .ok (.iadd, 1) := by decide +kernel
theorem dX5_addBytes_39 : decode cX5_addBytes 39 = .ok (.putfield 15, 3) := by decide +kernel
theorem dX5_addBytes_42 : decode cX5_addBytes 42 = .ok (.iinc 2 (-8), 3) := by decide +kernel
theorem dX5_addBytes_45 : decode cX5_addBytes 45 = .ok (.goto (-42), 3) := by decide +kernel
theorem dX5_addBytes_48 : decode cX5_addBytes 48 = .ok (.return_, 1) := by decide +kernel
theorem dX5_readText_0 : decode cX5_readText 0 = .ok (.aload_n 0, 1) := by decide +kernel
theorem dX5_readText_1 : decode cX5_readText 1 = .ok (.iload_n 1, 1) := by decide +kernel
theorem dX5_readText_2 : decode cX5_readText 2 = .ok (.aload_n 0, 1) := by decide +kernel
theorem dX5_readText_3 : decode cX5_readText 3 = .ok (.getfield 9, 3) := by decide +kernel
theorem dX5_readText_6 : decode cX5_readText 6 = .ok (.arraylength, 1) := by decide +kernel
theorem dX5_readText_7 : decode cX5_readText 7 = .ok (.invokestatic 26, 3) := by decide +kernel
theorem dX5_readText_10 : decode cX5_readText 10 = .ok (.putfield 32, 3) := by decide +kernel
theorem dX5_readText_13 : decode cX5_readText 13 = .ok (.aload_n 0, 1) := by decide +kernel
theorem dX5_readText_14 : decode cX5_readText 14 = .ok (.iconst 0, 1) := by decide +kernel
theorem dX5_readText_15 : decode cX5_readText 15 = .ok (.putfield 35, 3) := by decide +kernel
theorem dX5_readText_18 : decode cX5_readText 18 = .ok (.aload_n 0, 1) := by decide +kernel
theorem dX5_readText_19 : decode cX5_readText 19 = .ok (.getfield 22, 3) := by decide +kernel
theorem dX5_readText_22 : decode cX5_readText 22 = .ok (.invokevirtual 38, 3) := by decide +kernel
theorem dX5_readText_25 : decode cX5_readText 25 = .ok (.aload_n 0, 1) := by decide +kernel
theorem dX5_readText_26 : decode cX5_readText 26 = .ok (.iconst 0, 1) := by decide +kernel
theorem dX5_readText_27 : decode cX5_readText 27 = .ok (.putfield 41, 3) := by decide +kernel
theorem dX5_readText_30 : decode cX5_readText 30 = .ok (.iconst 0, 1) := by decide +kernel
theorem dX5_readText_31 : decode cX5_readText 31 = .ok (.istore_n 2, 1) := by decide +kernel
theorem dX5_readText_32 : decode cX5_readText 32 = .ok (.iload_n 2, 1) := by decide +kernel
theorem dX5_readText_33 : decode cX5_readText 33 = .ok (.aload_n 0, 1) := by decide +kernel
theorem dX5_readText_34 : decode cX5_readText 34 = .ok (.getfield 32, 3) := by decide +kernel
theorem dX5_readText_37 : decode cX5_readText 37 = .ok (.if_icmp .gt 45, 3) := by decide +kernel
theorem dX5_readText_40 : decode cX5_readText 40 = .ok (.aload_n 0, 1) := by decide +kernel
theorem dX5_readText_41 : decode cX5_readText 41 = .ok (.invokevirtual 45, 3) := by decide +kernel
theorem dX5_readText_44 : decode cX5_readText 44 = .ok (.aload_n 0, 1) := by decide +kernel
theorem dX5_readText_45 : decode cX5_readText 45 = .ok (.getfield 48, 3) := by decide +kernel
theorem dX5_readText_48 : decode cX5_readText 48 = .ok (.ifCond .ne 5, 3) := by decide +kernel
theorem dX5_readText_51 : decode cX5_readText 51 = .ok (.iconst 1, 1) := by decide +kernel
theorem dX5_readText_52 : decode cX5_readText 52 = .ok (.ireturn, 1) := by decide +kernel
theorem dX5_readText_53 : decode cX5_readText 53 = .ok (.aload_n 0, 1) := by decide +kernel
theorem dX5_readText_54 : decode cX5_readText 54 = .ok (.invokevirtual 51, 3) := by decide +kernel
theorem dX5_readText_57 : decode cX5_readText 57 = .ok (.ifCond .ne 5, 3) := by decide +kernel
theorem dX5_readText_60 : decode cX5_readText 60 = .ok (.iconst 0, 1) := by decide +kernel
theorem dX5_readText_61 : decode cX5_readText 61 = .ok (.ireturn, 1) := by decide +kernel
theorem dX5_readText_62 : decode cX5_readText 62 = .ok (.aload_n 0, 1) := by decide +kernel
theorem dX5_readText_63 : decode cX5_readText 63 = .ok (.getfield 48, 3) := by decide +kernel
theorem dX5_readText_66 : decode cX5_readText 66 = .ok (.iconst 3, 1) := by decide +kernel
theorem dX5_readText_67 : decode cX5_readText 67 = .ok (.if_icmp .eq 9, 3) := by decide +kernel
theorem dX5_readText_70 : decode cX5_readText 70 = .ok (.aload_n 0, 1) := by decide +kernel
theorem dX5_readText_71 : decode cX5_readText 71 = .ok (.iconst 1, 1) := by decide +kernel
theorem dX5_readText_72 : decode cX5_readText 72 = .ok (.invokevirtual 55, 3) := by decide +kernel
theorem dX5_readText_75 : decode cX5_readText 75 = .ok (.ireturn, 1) := by decide +kernel
theorem dX5_readText_76 : decode cX5_readText 76 = .ok (.iinc 2 1, 3) := by decide +kernel
theorem dX5_readText_79 : decode cX5_readText 79 = .ok (.goto (-47), 3) := by decide +kernel
theorem dX5_readText_82 : decode cX5_readText 82 = .ok (.iconst 1, 1) := by decide +kernel
theorem dX5_readText_83 : decode cX5_readText 83 = .ok (.ireturn, 1) := by decide +kernel
theorem dX5_readStatement_0 : decode cX5_readStatement 0 = .ok (.aload_n 0, 1) := by decide +kernel
theorem dX5_readStatement_1 : decode cX5_readStatement 1 = .ok (.ldc 59, 2) := by decide +kernel
theorem dX5_readStatement_3 : decode cX5_readStatement 3 = .ok (.invokevirtual 61, 3) := by decide +kernel
theorem dX5_readStatement_6 : decode cX5_readStatement 6 = .ok (.ifCond .eq 8, 3) := by decide +kernel
theorem dX5_readStatement_9 : decode cX5_readStatement 9 = .ok (.aload_n 0, 1) := by decide +kernel
theorem dX5_readStatement_10 : decode cX5_readStatement 10 = .ok (.invokevirtual 65, 3) := by decide +kernel
theorem dX5_readStatement_13 : decode cX5_readStatement 13 = .ok (.ireturn, 1) := by decide +kernel
theorem dX5_readStatement_14 : decode cX5_readStatement 14 = .ok (.aload_n 0, 1) := by decide +kernel
theorem dX5_readStatement_15 : decode cX5_readStatement 15 = .ok (.ldc 68, 2) := by decide +kernel
theorem dX5_readStatement_17 : decode cX5_readStatement 17 = .ok (.invokevirtual 61, 3) := by decide +kernel
theorem dX5_readStatement_20 : decode cX5_readStatement 20 = .ok (.ifCond .eq 8, 3) := by decide +kernel
theorem dX5_readStatement_23 : decode cX5_readStatement 23 = .ok (.aload_n 0, 1) := by decide +kernel
theorem dX5_readStatement_24 : decode cX5_readStatement 24 = .ok (.invokevirtual 70, 3) := by decide +kernel
theorem dX5_readStatement_27 : decode cX5_readStatement 27 = .ok (.ireturn, 1) := by decide +kernel
theorem dX5_readStatement_28 : decode cX5_readStatement 28 = .ok (.aload_n 0, 1) := by decide +kernel
theorem dX5_readStatement_29 : decode cX5_readStatement 29 = .ok (.ldc 73, 2) := by decide +kernel
theorem dX5_readStatement_31 : decode cX5_readStatement 31 = .ok (.invokevirtual 61, 3) := by decide +kernel
theorem dX5_readStatement_34 : decode cX5_readStatement 34 = .ok (.ifCond .eq 8, 3) := by decide +kernel
theorem dX5_readStatement_37 : decode cX5_readStatement 37 = .ok (.aload_n 0, 1) := by decide +kernel
theorem dX5_readStatement_38 : decode cX5_readStatement 38 = .ok (.invokevirtual 75, 3) := by decide +kernel
theorem dX5_readStatement_41 : decode cX5_readStatement 41 = .ok (.ireturn, 1) := by decide +kernel
theorem dX5_readStatement_42 : decode cX5_readStatement 42 = .ok (.aload_n 0, 1) := by decide +kernel
theorem dX5_readStatement_43 : decode cX5_readStatement 43 = .ok (.ldc 78, 2) := by decide +kernel
theorem dX5_readStatement_45 : decode cX5_readStatement 45 = .ok (.invokevirtual 61, 3) := by decide +kernel
theorem dX5_readStatement_48 : decode cX5_readStatement 48 = .ok (.ifCond .eq 8, 3) := by decide +kernel
theorem dX5_readStatement_51 : decode cX5_readStatement 51 = .ok (.aload_n 0, 1) := by decide +kernel
theorem dX5_readStatement_52 : decode cX5_readStatement 52 = .ok (.invokevirtual 80, 3) := by decide +kernel
theorem dX5_readStatement_55 : decode cX5_readStatement 55 = .ok (.ireturn, 1) := by decide +kernel
theorem dX5_readStatement_56 : decode cX5_readStatement 56 = .ok (.aload_n 0, 1) := by decide +kernel
theorem dX5_readStatement_57 : decode cX5_readStatement 57 = .ok (.ldc 83, 2) := by decide +kernel
theorem dX5_readStatement_59 : decode cX5_readStatement 59 = .ok (.invokevirtual 61, 3) := by decide +kernel
theorem dX5_readStatement_62 : decode cX5_readStatement 62 = .ok (.ifCond .eq 8, 3) := by decide +kernel
theorem dX5_readStatement_65 : decode cX5_readStatement 65 = .ok (.aload_n 0, 1) := by decide +kernel
theorem dX5_readStatement_66 : decode cX5_readStatement 66 = .ok (.invokevirtual 85, 3) := by decide +kernel
theorem dX5_readStatement_69 : decode cX5_readStatement 69 = .ok (.ireturn, 1) := by decide +kernel
theorem dX5_readStatement_70 : decode cX5_readStatement 70 = .ok (.aload_n 0, 1) := by decide +kernel
theorem dX5_readStatement_71 : decode cX5_readStatement 71 = .ok (.iconst 1, 1) := by decide +kernel
theorem dX5_readStatement_72 : decode cX5_readStatement 72 = .ok (.invokevirtual 55, 3) := by decide +kernel
theorem dX5_readStatement_75 : decode cX5_readStatement 75 = .ok (.ireturn, 1) := by decide +kernel
theorem dX5_readRule_0 : decode cX5_readRule 0 = .ok (.aload_n 0, 1) := by decide +kernel
theorem dX5_readRule_1 : decode cX5_readRule 1 = .ok (.getfield 22, 3) := by decide +kernel
theorem dX5_readRule_4 : decode cX5_readRule 4 = .ok (.getfield 88, 3) := by decide +kernel
theorem dX5_readRule_7 : decode cX5_readRule 7 = .ok (.bipush 6, 2) := by decide +kernel
theorem dX5_readRule_9 : decode cX5_readRule 9 = .ok (.if_icmp .lt 9, 3) := by decide +kernel
theorem dX5_readRule_12 : decode cX5_readRule 12 = .ok (.aload_n 0, 1) := by decide +kernel
theorem dX5_readRule_13 : decode cX5_readRule 13 = .ok (.iconst 5, 1) := by decide +kernel
theorem dX5_readRule_14 : decode cX5_readRule 14 = .ok (.invokevirtual 55, 3) := by decide +kernel
theorem dX5_readRule_17 : decode cX5_readRule 17 = .ok (.ireturn, 1) := by decide +kernel
theorem dX5_readRule_18 : decode cX5_readRule 18 = .ok (.aload_n 0, 1) := by decide +kernel
theorem dX5_readRule_19 : decode cX5_readRule 19 = .ok (.invokevirtual 45, 3) := by decide +kernel
theorem dX5_readRule_22 : decode cX5_readRule 22 = .ok (.aload_n 0, 1) := by decide +kernel
theorem dX5_readRule_23 : decode cX5_readRule 23 = .ok (.invokevirtual 91, 3) := by decide +kernel
theorem dX5_readRule_26 : decode cX5_readRule 26 = .ok (.ifCond .ne 9, 3) := by decide +kernel
theorem dX5_readRule_29 : decode cX5_readRule 29 = .ok (.aload_n 0, 1) := by decide +kernel
theorem dX5_readRule_30 : decode cX5_readRule 30 = .ok (.iconst 1, 1) := by decide +kernel
theorem dX5_readRule_31 : decode cX5_readRule 31 = .ok (.invokevirtual 55, 3) := by decide +kernel
theorem dX5_readRule_34 : decode cX5_readRule 34 = .ok (.ireturn, 1) := by decide +kernel
theorem dX5_readRule_35 : decode cX5_readRule 35 = .ok (.aload_n 0, 1) := by decide +kernel
theorem dX5_readRule_36 : decode cX5_readRule 36 = .ok (.invokevirtual 94, 3) := by decide +kernel
theorem dX5_readRule_39 : decode cX5_readRule 39 = .ok (.lstore_n 1, 1) := by decide +kernel
theorem dX5_readRule_40 : decode cX5_readRule 40 = .ok (.aload_n 0, 1) := by decide +kernel
theorem dX5_readRule_41 : decode cX5_readRule 41 = .ok (.getfield 22, 3) := by decide +kernel
theorem dX5_readRule_44 : decode cX5_readRule 44 = .ok (.lload_n 1, 1) := by decide +kernel
theorem dX5_readRule_45 : decode cX5_readRule 45 = .ok (.invokevirtual 98, 3) := by decide +kernel
theorem dX5_readRule_48 : decode cX5_readRule 48 = .ok (.iconst (-1), 1) := by decide +kernel
theorem dX5_readRule_49 : decode cX5_readRule 49 = .ok (.if_icmp .eq 9, 3) := by decide +kernel
theorem dX5_readRule_52 : decode cX5_readRule 52 = .ok (.aload_n 0, 1) := by decide +kernel
theorem dX5_readRule_53 : decode cX5_readRule 53 = .ok (.iconst 2, 1) := by decide +kernel
theorem dX5_readRule_54 : decode cX5_readRule 54 = .ok (.invokevirtual 55, 3) := by decide +kernel
theorem dX5_readRule_57 : decode cX5_readRule 57 = .ok (.ireturn, 1) := by decide +kernel
theorem dX5_readRule_58 : decode cX5_readRule 58 = .ok (.aload_n 0, 1) := by decide +kernel
theorem dX5_readRule_59 : decode cX5_readRule 59 = .ok (.invokevirtual 45, 3) := by decide +kernel
theorem dX5_readRule_62 : decode cX5_readRule 62 = .ok (.aload_n 0, 1) := by decide +kernel
theorem dX5_readRule_63 : decode cX5_readRule 63 = .ok (.invokevirtual 102, 3) := by decide +kernel
theorem dX5_readRule_66 : decode cX5_readRule 66 = .ok (.istore_n 3, 1) := by decide +kernel
theorem dX5_readRule_67 : decode cX5_readRule 67 = .ok (.iload_n 3, 1) := by decide +kernel
theorem dX5_readRule_68 : decode cX5_readRule 68 = .ok (.iconst (-1), 1) := by decide +kernel
theorem dX5_readRule_69 : decode cX5_readRule 69 = .ok (.if_icmp .ne 9, 3) := by decide +kernel
theorem dX5_readRule_72 : decode cX5_readRule 72 = .ok (.aload_n 0, 1) := by decide +kernel
theorem dX5_readRule_73 : decode cX5_readRule 73 = .ok (.iconst 1, 1) := by decide +kernel
theorem dX5_readRule_74 : decode cX5_readRule 74 = .ok (.invokevirtual 55, 3) := by decide +kernel
theorem dX5_readRule_77 : decode cX5_readRule 77 = .ok (.ireturn, 1) := by decide +kernel
theorem dX5_readRule_78 : decode cX5_readRule 78 = .ok (.aload_n 0, 1) := by decide +kernel
theorem dX5_readRule_79 : decode cX5_readRule 79 = .ok (.invokevirtual 45, 3) := by decide +kernel
theorem dX5_readRule_82 : decode cX5_readRule 82 = .ok (.aload_n 0, 1) := by decide +kernel
theorem dX5_readRule_83 : decode cX5_readRule 83 = .ok (.lconst 0, 1) := by decide +kernel
theorem dX5_readRule_84 : decode cX5_readRule 84 = .ok (.putfield 106, 3) := by decide +kernel
theorem dX5_readRule_87 : decode cX5_readRule 87 = .ok (.iload_n 3, 1) := by decide +kernel
theorem dX5_readRule_88 : decode cX5_readRule 88 = .ok (.ifCond .ne 14, 3) := by decide +kernel
theorem dX5_readRule_91 : decode cX5_readRule 91 = .ok (.aload_n 0, 1) := by decide +kernel
theorem dX5_readRule_92 : decode cX5_readRule 92 = .ok (.bipush 60, 2) := by decide +kernel
theorem dX5_readRule_94 : decode cX5_readRule 94 = .ok (.invokevirtual 110, 3) := by decide +kernel
theorem dX5_readRule_97 : decode cX5_readRule 97 = .ok (.ifCond .ne 5, 3) := by decide +kernel
theorem dX5_readRule_100 : decode cX5_readRule 100 = .ok (.iconst 0, 1) := by decide +kernel
theorem dX5_readRule_101 : decode cX5_readRule 101 = .ok (.ireturn, 1) := by decide +kernel
theorem dX5_readRule_102 : decode cX5_readRule 102 = .ok (.aload_n 0, 1) := by decide +kernel
theorem dX5_readRule_103 : decode cX5_readRule 103 = .ok (.getfield 22, 3) := by decide +kernel
theorem dX5_readRule_106 : decode cX5_readRule 106 = .ok (.lload_n 1, 1) := by decide +kernel
theorem dX5_readRule_107 : decode cX5_readRule 107 = .ok (.iload_n 3, 1) := by decide +kernel
theorem dX5_readRule_108 : decode cX5_readRule 108 = .ok (.aload_n 0, 1) := by decide +kernel
theorem dX5_readRule_109 : decode cX5_readRule 109 = .ok (.getfield 106, 3) := by decide +kernel
theorem dX5_readRule_112 : decode cX5_readRule 112 = .ok (.invokevirtual 113, 3) := by decide +kernel
theorem dX5_readRule_115 : decode cX5_readRule 115 = .ok (.iconst 1, 1) := by decide +kernel
theorem dX5_readRule_116 : decode cX5_readRule 116 = .ok (.ireturn, 1) := by decide +kernel
theorem dX5_readHeap_0 : decode cX5_readHeap 0 = .ok (.aload_n 0, 1) := by decide +kernel
theorem dX5_readHeap_1 : decode cX5_readHeap 1 = .ok (.getfield 22, 3) := by decide +kernel
theorem dX5_readHeap_4 : decode cX5_readHeap 4 = .ok (.getfield 117, 3) := by decide +kernel
theorem dX5_readHeap_7 : decode cX5_readHeap 7 = .ok (.getfield 121, 3) := by decide +kernel
theorem dX5_readHeap_10 : decode cX5_readHeap 10 = .ok (.iconst 4, 1) := by decide +kernel
theorem dX5_readHeap_11 : decode cX5_readHeap 11 = .ok (.if_icmp .lt 9, 3) := by decide +kernel
theorem dX5_readHeap_14 : decode cX5_readHeap 14 = .ok (.aload_n 0, 1) := by decide +kernel
theorem dX5_readHeap_15 : decode cX5_readHeap 15 = .ok (.iconst 5, 1) := by decide +kernel
theorem dX5_readHeap_16 : decode cX5_readHeap 16 = .ok (.invokevirtual 55, 3) := by decide +kernel
theorem dX5_readHeap_19 : decode cX5_readHeap 19 = .ok (.ireturn, 1) := by decide +kernel
theorem dX5_readHeap_20 : decode cX5_readHeap 20 = .ok (.aload_n 0, 1) := by decide +kernel
theorem dX5_readHeap_21 : decode cX5_readHeap 21 = .ok (.invokevirtual 45, 3) := by decide +kernel
theorem dX5_readHeap_24 : decode cX5_readHeap 24 = .ok (.aload_n 0, 1) := by decide +kernel
theorem dX5_readHeap_25 : decode cX5_readHeap 25 = .ok (.invokevirtual 91, 3) := by decide +kernel
theorem dX5_readHeap_28 : decode cX5_readHeap 28 = .ok (.ifCond .ne 9, 3) := by decide +kernel
theorem dX5_readHeap_31 : decode cX5_readHeap 31 = .ok (.aload_n 0, 1) := by decide +kernel
theorem dX5_readHeap_32 : decode cX5_readHeap 32 = .ok (.iconst 1, 1) := by decide +kernel
theorem dX5_readHeap_33 : decode cX5_readHeap 33 = .ok (.invokevirtual 55, 3) := by decide +kernel
theorem dX5_readHeap_36 : decode cX5_readHeap 36 = .ok (.ireturn, 1) := by decide +kernel
theorem dX5_readHeap_37 : decode cX5_readHeap 37 = .ok (.aload_n 0, 1) := by decide +kernel
theorem dX5_readHeap_38 : decode cX5_readHeap 38 = .ok (.getfield 22, 3) := by decide +kernel
theorem dX5_readHeap_41 : decode cX5_readHeap 41 = .ok (.aload_n 0, 1) := by decide +kernel
theorem dX5_readHeap_42 : decode cX5_readHeap 42 = .ok (.invokevirtual 94, 3) := by decide +kernel
theorem dX5_readHeap_45 : decode cX5_readHeap 45 = .ok (.invokevirtual 98, 3) := by decide +kernel
theorem dX5_readHeap_48 : decode cX5_readHeap 48 = .ok (.istore_n 1, 1) := by decide +kernel
theorem dX5_readHeap_49 : decode cX5_readHeap 49 = .ok (.iload_n 1, 1) := by decide +kernel
theorem dX5_readHeap_50 : decode cX5_readHeap 50 = .ok (.iconst (-1), 1) := by decide +kernel
theorem dX5_readHeap_51 : decode cX5_readHeap 51 = .ok (.if_icmp .ne 9, 3) := by decide +kernel
theorem dX5_readHeap_54 : decode cX5_readHeap 54 = .ok (.aload_n 0, 1) := by decide +kernel
theorem dX5_readHeap_55 : decode cX5_readHeap 55 = .ok (.iconst 4, 1) := by decide +kernel
theorem dX5_readHeap_56 : decode cX5_readHeap 56 = .ok (.invokevirtual 55, 3) := by decide +kernel
theorem dX5_readHeap_59 : decode cX5_readHeap 59 = .ok (.ireturn, 1) := by decide +kernel
theorem dX5_readHeap_60 : decode cX5_readHeap 60 = .ok (.aload_n 0, 1) := by decide +kernel
theorem dX5_readHeap_61 : decode cX5_readHeap 61 = .ok (.invokevirtual 45, 3) := by decide +kernel
theorem dX5_readHeap_64 : decode cX5_readHeap 64 = .ok (.aload_n 0, 1) := by decide +kernel
theorem dX5_readHeap_65 : decode cX5_readHeap 65 = .ok (.invokevirtual 126, 3) := by decide +kernel
theorem dX5_readHeap_68 : decode cX5_readHeap 68 = .ok (.ifCond .ne 9, 3) := by decide +kernel
theorem dX5_readHeap_71 : decode cX5_readHeap 71 = .ok (.aload_n 0, 1) := by decide +kernel
theorem dX5_readHeap_72 : decode cX5_readHeap 72 = .ok (.iconst 1, 1) := by decide +kernel
theorem dX5_readHeap_73 : decode cX5_readHeap 73 = .ok (.invokevirtual 55, 3) := by decide +kernel
theorem dX5_readHeap_76 : decode cX5_readHeap 76 = .ok (.ireturn, 1) := by decide +kernel
theorem dX5_readHeap_77 : decode cX5_readHeap 77 = .ok (.aload_n 0, 1) := by decide +kernel
theorem dX5_readHeap_78 : decode cX5_readHeap 78 = .ok (.invokevirtual 129, 3) := by decide +kernel
theorem dX5_readHeap_81 : decode cX5_readHeap 81 = .ok (.istore_n 2, 1) := by decide +kernel
theorem dX5_readHeap_82 : decode cX5_readHeap 82 = .ok (.iload_n 2, 1) := by decide +kernel
theorem dX5_readHeap_83 : decode cX5_readHeap 83 = .ok (.bipush 15, 2) := by decide +kernel
theorem dX5_readHeap_85 : decode cX5_readHeap 85 = .ok (.if_icmp .le 9, 3) := by decide +kernel
theorem dX5_readHeap_88 : decode cX5_readHeap 88 = .ok (.aload_n 0, 1) := by decide +kernel
theorem dX5_readHeap_89 : decode cX5_readHeap 89 = .ok (.iconst 3, 1) := by decide +kernel
theorem dX5_readHeap_90 : decode cX5_readHeap 90 = .ok (.invokevirtual 55, 3) := by decide +kernel
theorem dX5_readHeap_93 : decode cX5_readHeap 93 = .ok (.ireturn, 1) := by decide +kernel
theorem dX5_readHeap_94 : decode cX5_readHeap 94 = .ok (.aload_n 0, 1) := by decide +kernel
theorem dX5_readHeap_95 : decode cX5_readHeap 95 = .ok (.getfield 22, 3) := by decide +kernel
theorem dX5_readHeap_98 : decode cX5_readHeap 98 = .ok (.getfield 117, 3) := by decide +kernel
theorem dX5_readHeap_101 : decode cX5_readHeap 101 = .ok (.iload_n 1, 1) := by decide +kernel
theorem dX5_readHeap_102 : decode cX5_readHeap 102 = .ok (.iload_n 2, 1) := by decide +kernel
theorem dX5_readHeap_103 : decode cX5_readHeap 103 = .ok (.invokevirtual 132, 3) := by decide +kernel
theorem dX5_readHeap_106 : decode cX5_readHeap 106 = .ok (.pop, 1) := by decide +kernel
theorem dX5_readHeap_107 : decode cX5_readHeap 107 = .ok (.aload_n 0, 1) := by decide +kernel
theorem dX5_readHeap_108 : decode cX5_readHeap 108 = .ok (.invokevirtual 45, 3) := by decide +kernel
theorem dX5_readHeap_111 : decode cX5_readHeap 111 = .ok (.iconst 1, 1) := by decide +kernel
theorem dX5_readHeap_112 : decode cX5_readHeap 112 = .ok (.ireturn, 1) := by decide +kernel
theorem dX5_readShared_0 : decode cX5_readShared 0 = .ok (.aload_n 0, 1) := by decide +kernel
theorem dX5_readShared_1 : decode cX5_readShared 1 = .ok (.getfield 22, 3) := by decide +kernel
theorem dX5_readShared_4 : decode cX5_readShared 4 = .ok (.getfield 135, 3) := by decide +kernel
theorem dX5_readShared_7 : decode cX5_readShared 7 = .ok (.ifCond .eq 9, 3) := by decide +kernel
theorem dX5_readShared_10 : decode cX5_readShared 10 = .ok (.aload_n 0, 1) := by decide +kernel
theorem dX5_readShared_11 : decode cX5_readShared 11 = .ok (.iconst 2, 1) := by decide +kernel
theorem dX5_readShared_12 : decode cX5_readShared 12 = .ok (.invokevirtual 55, 3) := by decide +kernel
theorem dX5_readShared_15 : decode cX5_readShared 15 = .ok (.ireturn, 1) := by decide +kernel
theorem dX5_readShared_16 : decode cX5_readShared 16 = .ok (.aload_n 0, 1) := by decide +kernel
theorem dX5_readShared_17 : decode cX5_readShared 17 = .ok (.invokevirtual 45, 3) := by decide +kernel
theorem dX5_readShared_20 : decode cX5_readShared 20 = .ok (.aload_n 0, 1) := by decide +kernel
theorem dX5_readShared_21 : decode cX5_readShared 21 = .ok (.bipush 15, 2) := by decide +kernel
theorem dX5_readShared_23 : decode cX5_readShared 23 = .ok (.invokevirtual 110, 3) := by decide +kernel
theorem dX5_readShared_26 : decode cX5_readShared 26 = .ok (.ifCond .ne 5, 3) := by decide +kernel
theorem dX5_readShared_29 : decode cX5_readShared 29 = .ok (.iconst 0, 1) := by decide +kernel
theorem dX5_readShared_30 : decode cX5_readShared 30 = .ok (.ireturn, 1) := by decide +kernel
theorem dX5_readShared_31 : decode cX5_readShared 31 = .ok (.aload_n 0, 1) := by decide +kernel
theorem dX5_readShared_32 : decode cX5_readShared 32 = .ok (.getfield 22, 3) := by decide +kernel
theorem dX5_readShared_35 : decode cX5_readShared 35 = .ok (.aload_n 0, 1) := by decide +kernel
theorem dX5_readShared_36 : decode cX5_readShared 36 = .ok (.getfield 106, 3) := by decide +kernel
theorem dX5_readShared_39 : decode cX5_readShared 39 = .ok (.l2i, 1) := by decide +kernel
theorem dX5_readShared_40 : decode cX5_readShared 40 = .ok (.putfield 135, 3) := by decide +kernel
theorem dX5_readShared_43 : decode cX5_readShared 43 = .ok (.iconst 1, 1) := by decide +kernel
theorem dX5_readShared_44 : decode cX5_readShared 44 = .ok (.ireturn, 1) := by decide +kernel
theorem dX5_readPasses_0 : decode cX5_readPasses 0 = .ok (.aload_n 0, 1) := by decide +kernel
theorem dX5_readPasses_1 : decode cX5_readPasses 1 = .ok (.getfield 41, 3) := by decide +kernel
theorem dX5_readPasses_4 : decode cX5_readPasses 4 = .ok (.ifCond .eq 9, 3) := by decide +kernel
theorem dX5_readPasses_7 : decode cX5_readPasses 7 = .ok (.aload_n 0, 1) := by decide +kernel
theorem dX5_readPasses_8 : decode cX5_readPasses 8 = .ok (.iconst 2, 1) := by decide +kernel
theorem dX5_readPasses_9 : decode cX5_readPasses 9 = .ok (.invokevirtual 55, 3) := by decide +kernel
theorem dX5_readPasses_12 : decode cX5_readPasses 12 = .ok (.ireturn, 1) := by decide +kernel
theorem dX5_readPasses_13 : decode cX5_readPasses 13 = .ok (.aload_n 0, 1) := by decide +kernel
theorem dX5_readPasses_14 : decode cX5_readPasses 14 = .ok (.iconst 1, 1) := by decide +kernel
theorem dX5_readPasses_15 : decode cX5_readPasses 15 = .ok (.putfield 41, 3) := by decide +kernel
theorem dX5_readPasses_18 : decode cX5_readPasses 18 = .ok (.aload_n 0, 1) := by decide +kernel
theorem dX5_readPasses_19 : decode cX5_readPasses 19 = .ok (.invokevirtual 45, 3) := by decide +kernel
theorem dX5_readPasses_22 : decode cX5_readPasses 22 = .ok (.aload_n 0, 1) := by decide +kernel
theorem dX5_readPasses_23 : decode cX5_readPasses 23 = .ok (.invokevirtual 126, 3) := by decide +kernel
theorem dX5_readPasses_26 : decode cX5_readPasses 26 = .ok (.ifCond .ne 9, 3) := by decide +kernel
theorem dX5_readPasses_29 : decode cX5_readPasses 29 = .ok (.aload_n 0, 1) := by decide +kernel
theorem dX5_readPasses_30 : decode cX5_readPasses 30 = .ok (.iconst 1, 1) := by decide +kernel
theorem dX5_readPasses_31 : decode cX5_readPasses 31 = .ok (.invokevirtual 55, 3) := by decide +kernel
theorem dX5_readPasses_34 : decode cX5_readPasses 34 = .ok (.ireturn, 1) := by decide +kernel
theorem dX5_readPasses_35 : decode cX5_readPasses 35 = .ok (.aload_n 0, 1) := by decide +kernel
theorem dX5_readPasses_36 : decode cX5_readPasses 36 = .ok (.invokevirtual 129, 3) := by decide +kernel
theorem dX5_readPasses_39 : decode cX5_readPasses 39 = .ok (.istore_n 1, 1) := by decide +kernel
theorem dX5_readPasses_40 : decode cX5_readPasses 40 = .ok (.iload_n 1, 1) := by decide +kernel
theorem dX5_readPasses_41 : decode cX5_readPasses 41 = .ok (.iconst 3, 1) := by decide +kernel
theorem dX5_readPasses_42 : decode cX5_readPasses 42 = .ok (.if_icmp .le 9, 3) := by decide +kernel
theorem dX5_readPasses_45 : decode cX5_readPasses 45 = .ok (.aload_n 0, 1) := by decide +kernel
theorem dX5_readPasses_46 : decode cX5_readPasses 46 = .ok (.iconst 3, 1) := by decide +kernel
theorem dX5_readPasses_47 : decode cX5_readPasses 47 = .ok (.invokevirtual 55, 3) := by decide +kernel
theorem dX5_readPasses_50 : decode cX5_readPasses 50 = .ok (.ireturn, 1) := by decide +kernel
theorem dX5_readPasses_51 : decode cX5_readPasses 51 = .ok (.aload_n 0, 1) := by decide +kernel
theorem dX5_readPasses_52 : decode cX5_readPasses 52 = .ok (.getfield 22, 3) := by decide +kernel
theorem dX5_readPasses_55 : decode cX5_readPasses 55 = .ok (.getfield 117, 3) := by decide +kernel
theorem dX5_readPasses_58 : decode cX5_readPasses 58 = .ok (.dup, 1) := by decide +kernel
theorem dX5_readPasses_59 : decode cX5_readPasses 59 = .ok (.getfield 137, 3) := by decide +kernel
theorem dX5_readPasses_62 : decode cX5_readPasses 62 = .ok (.iload_n 1, 1) := by decide +kernel
theorem dX5_readPasses_63 : decode cX5_readPasses 63 = .ok (.ldc 140, 2) := by decide +kernel
theorem dX5_readPasses_65 : decode cX5_readPasses 65 = .ok (.imul, 1) := by decide +kernel
theorem dX5_readPasses_66 : decode cX5_readPasses 66 = .ok (.iadd, 1) := by decide +kernel
theorem dX5_readPasses_67 : decode cX5_readPasses 67 = .ok (.putfield 137, 3) := by decide +kernel
theorem dX5_readPasses_70 : decode cX5_readPasses 70 = .ok (.aload_n 0, 1) := by decide +kernel
theorem dX5_readPasses_71 : decode cX5_readPasses 71 = .ok (.invokevirtual 45, 3) := by decide +kernel
theorem dX5_readPasses_74 : decode cX5_readPasses 74 = .ok (.iconst 1, 1) := by decide +kernel
theorem dX5_readPasses_75 : decode cX5_readPasses 75 = .ok (.ireturn, 1) := by decide +kernel
theorem dX5_readMisere_0 : decode cX5_readMisere 0 = .ok (.aload_n 0, 1) := by decide +kernel
theorem dX5_readMisere_1 : decode cX5_readMisere 1 = .ok (.getfield 22, 3) := by decide +kernel
theorem dX5_readMisere_4 : decode cX5_readMisere 4 = .ok (.getfield 117, 3) := by decide +kernel
theorem dX5_readMisere_7 : decode cX5_readMisere 7 = .ok (.getfield 141, 3) := by decide +kernel
theorem dX5_readMisere_10 : decode cX5_readMisere 10 = .ok (.ifCond .eq 9, 3) := by decide +kernel
theorem dX5_readMisere_13 : decode cX5_readMisere 13 = .ok (.aload_n 0, 1) := by decide +kernel
theorem dX5_readMisere_14 : decode cX5_readMisere 14 = .ok (.iconst 2, 1) := by decide +kernel
theorem dX5_readMisere_15 : decode cX5_readMisere 15 = .ok (.invokevirtual 55, 3) := by decide +kernel
theorem dX5_readMisere_18 : decode cX5_readMisere 18 = .ok (.ireturn, 1) := by decide +kernel
theorem dX5_readMisere_19 : decode cX5_readMisere 19 = .ok (.aload_n 0, 1) := by decide +kernel
theorem dX5_readMisere_20 : decode cX5_readMisere 20 = .ok (.getfield 22, 3) := by decide +kernel
theorem dX5_readMisere_23 : decode cX5_readMisere 23 = .ok (.getfield 117, 3) := by decide +kernel
theorem dX5_readMisere_26 : decode cX5_readMisere 26 = .ok (.iconst 1, 1) := by decide +kernel
theorem dX5_readMisere_27 : decode cX5_readMisere 27 = .ok (.putfield 141, 3) := by decide +kernel
theorem dX5_readMisere_30 : decode cX5_readMisere 30 = .ok (.aload_n 0, 1) := by decide +kernel
theorem dX5_readMisere_31 : decode cX5_readMisere 31 = .ok (.invokevirtual 45, 3) := by decide +kernel
theorem dX5_readMisere_34 : decode cX5_readMisere 34 = .ok (.iconst 1, 1) := by decide +kernel
theorem dX5_readMisere_35 : decode cX5_readMisere 35 = .ok (.ireturn, 1) := by decide +kernel
theorem dX5_readAmounts_0 : decode cX5_readAmounts 0 = .ok (.aload_n 0, 1) := by decide +kernel
theorem dX5_readAmounts_1 : decode cX5_readAmounts 1 = .ok (.lconst 0, 1) := by decide +kernel
theorem dX5_readAmounts_2 : decode cX5_readAmounts 2 = .ok (.putfield 106, 3) := by decide +kernel
theorem dX5_readAmounts_5 : decode cX5_readAmounts 5 = .ok (.iconst 0, 1) := by decide +kernel
theorem dX5_readAmounts_6 : decode cX5_readAmounts 6 = .ok (.istore_n 2, 1) := by decide +kernel
theorem dX5_readAmounts_7 : decode cX5_readAmounts 7 = .ok (.iload_n 2, 1) := by decide +kernel
theorem dX5_readAmounts_8 : decode cX5_readAmounts 8 = .ok (.bipush 8, 2) := by decide +kernel
theorem dX5_readAmounts_10 : decode cX5_readAmounts 10 = .ok (.if_icmp .gt 104, 3) := by decide +kernel
theorem dX5_readAmounts_13 : decode cX5_readAmounts 13 = .ok (.iload_n 2, 1) := by decide +kernel
theorem dX5_readAmounts_14 : decode cX5_readAmounts 14 = .ok (.ifCond .le 13, 3) := by decide +kernel
theorem dX5_readAmounts_17 : decode cX5_readAmounts 17 = .ok (.aload_n 0, 1) := by decide +kernel
theorem dX5_readAmounts_18 : decode cX5_readAmounts 18 = .ok (.getfield 48, 3) := by decide +kernel
theorem dX5_readAmounts_21 : decode cX5_readAmounts 21 = .ok (.iconst 2, 1) := by decide +kernel
theorem dX5_readAmounts_22 : decode cX5_readAmounts 22 = .ok (.if_icmp .eq 5, 3) := by decide +kernel
theorem dX5_readAmounts_25 : decode cX5_readAmounts 25 = .ok (.iconst 1, 1) := by decide +kernel
theorem dX5_readAmounts_26 : decode cX5_readAmounts 26 = .ok (.ireturn, 1) := by decide +kernel
theorem dX5_readAmounts_27 : decode cX5_readAmounts 27 = .ok (.aload_n 0, 1) := by decide +kernel
theorem dX5_readAmounts_28 : decode cX5_readAmounts 28 = .ok (.invokevirtual 126, 3) := by decide +kernel
theorem dX5_readAmounts_31 : decode cX5_readAmounts 31 = .ok (.ifCond .ne 9, 3) := by decide +kernel
theorem dX5_readAmounts_34 : decode cX5_readAmounts 34 = .ok (.aload_n 0, 1) := by decide +kernel
theorem dX5_readAmounts_35 : decode cX5_readAmounts 35 = .ok (.iconst 1, 1) := by decide +kernel
theorem dX5_readAmounts_36 : decode cX5_readAmounts 36 = .ok (.invokevirtual 55, 3) := by decide +kernel
theorem dX5_readAmounts_39 : decode cX5_readAmounts 39 = .ok (.ireturn, 1) := by decide +kernel
theorem dX5_readAmounts_40 : decode cX5_readAmounts 40 = .ok (.aload_n 0, 1) := by decide +kernel
theorem dX5_readAmounts_41 : decode cX5_readAmounts 41 = .ok (.invokevirtual 129, 3) := by decide +kernel
theorem dX5_readAmounts_44 : decode cX5_readAmounts 44 = .ok (.istore_n 3, 1) := by decide +kernel
theorem dX5_readAmounts_45 : decode cX5_readAmounts 45 = .ok (.iload_n 3, 1) := by decide +kernel
theorem dX5_readAmounts_46 : decode cX5_readAmounts 46 = .ok (.iconst 1, 1) := by decide +kernel
theorem dX5_readAmounts_47 : decode cX5_readAmounts 47 = .ok (.if_icmp .lt 8, 3) := by decide +kernel
theorem dX5_readAmounts_50 : decode cX5_readAmounts 50 = .ok (.iload_n 3, 1) := by decide +kernel
theorem dX5_readAmounts_51 : decode cX5_readAmounts 51 = .ok (.iload_n 1, 1) := by decide +kernel
theorem dX5_readAmounts_52 : decode cX5_readAmounts 52 = .ok (.if_icmp .le 9, 3) := by decide +kernel
theorem dX5_readAmounts_55 : decode cX5_readAmounts 55 = .ok (.aload_n 0, 1) := by decide +kernel
theorem dX5_readAmounts_56 : decode cX5_readAmounts 56 = .ok (.iconst 3, 1) := by decide +kernel
theorem dX5_readAmounts_57 : decode cX5_readAmounts 57 = .ok (.invokevirtual 55, 3) := by decide +kernel
theorem dX5_readAmounts_60 : decode cX5_readAmounts 60 = .ok (.ireturn, 1) := by decide +kernel
theorem dX5_readAmounts_61 : decode cX5_readAmounts 61 = .ok (.aload_n 0, 1) := by decide +kernel
theorem dX5_readAmounts_62 : decode cX5_readAmounts 62 = .ok (.getfield 106, 3) := by decide +kernel
theorem dX5_readAmounts_65 : decode cX5_readAmounts 65 = .ok (.iload_n 3, 1) := by decide +kernel
theorem dX5_readAmounts_66 : decode cX5_readAmounts 66 = .ok (.lshr, 1) := by decide +kernel
theorem dX5_readAmounts_67 : decode cX5_readAmounts 67 = .ok (.lconst 1, 1) := by decide +kernel
theorem dX5_readAmounts_68 : decode cX5_readAmounts 68 = .ok (.land, 1) := by decide +kernel
theorem dX5_readAmounts_69 : decode cX5_readAmounts 69 = .ok (.lconst 0, 1) := by decide +kernel
theorem dX5_readAmounts_70 : decode cX5_readAmounts 70 = .ok (.lcmp, 1) := by decide +kernel
theorem dX5_readAmounts_71 : decode cX5_readAmounts 71 = .ok (.ifCond .eq 9, 3) := by decide +kernel
theorem dX5_readAmounts_74 : decode cX5_readAmounts 74 = .ok (.aload_n 0, 1) := by decide +kernel
theorem dX5_readAmounts_75 : decode cX5_readAmounts 75 = .ok (.iconst 2, 1) := by decide +kernel
theorem dX5_readAmounts_76 : decode cX5_readAmounts 76 = .ok (.invokevirtual 55, 3) := by decide +kernel
theorem dX5_readAmounts_79 : decode cX5_readAmounts 79 = .ok (.ireturn, 1) := by decide +kernel
theorem dX5_readAmounts_80 : decode cX5_readAmounts 80 = .ok (.iload_n 2, 1) := by decide +kernel
theorem dX5_readAmounts_81 : decode cX5_readAmounts 81 = .ok (.bipush 8, 2) := by decide +kernel
theorem dX5_readAmounts_83 : decode cX5_readAmounts 83 = .ok (.if_icmp .ne 9, 3) := by decide +kernel
theorem dX5_readAmounts_86 : decode cX5_readAmounts 86 = .ok (.aload_n 0, 1) := by decide +kernel
theorem dX5_readAmounts_87 : decode cX5_readAmounts 87 = .ok (.iconst 5, 1) := by decide +kernel
theorem dX5_readAmounts_88 : decode cX5_readAmounts 88 = .ok (.invokevirtual 55, 3) := by decide +kernel
theorem dX5_readAmounts_91 : decode cX5_readAmounts 91 = .ok (.ireturn, 1) := by decide +kernel
theorem dX5_readAmounts_92 : decode cX5_readAmounts 92 = .ok (.aload_n 0, 1) := by decide +kernel
theorem dX5_readAmounts_93 : decode cX5_readAmounts 93 = .ok (.dup, 1) := by decide +kernel
theorem dX5_readAmounts_94 : decode cX5_readAmounts 94 = .ok (.getfield 106, 3) := by decide +kernel
theorem dX5_readAmounts_97 : decode cX5_readAmounts 97 = .ok (.lconst 1, 1) := by decide +kernel
theorem dX5_readAmounts_98 : decode cX5_readAmounts 98 = .ok (.iload_n 3, 1) := by decide +kernel
theorem dX5_readAmounts_99 : decode cX5_readAmounts 99 = .ok (.lshl, 1) := by decide +kernel
theorem dX5_readAmounts_100 : decode cX5_readAmounts 100 = .ok (.lor, 1) := by decide +kernel
theorem dX5_readAmounts_101 : decode cX5_readAmounts 101 = .ok (.putfield 106, 3) := by decide +kernel
theorem dX5_readAmounts_104 : decode cX5_readAmounts 104 = .ok (.aload_n 0, 1) := by decide +kernel
theorem dX5_readAmounts_105 : decode cX5_readAmounts 105 = .ok (.invokevirtual 45, 3) := by decide +kernel
theorem dX5_readAmounts_108 : decode cX5_readAmounts 108 = .ok (.iinc 2 1, 3) := by decide +kernel
theorem dX5_readAmounts_111 : decode cX5_readAmounts 111 = .ok (.goto (-104), 3) := by decide +kernel
theorem dX5_readAmounts_114 : decode cX5_readAmounts 114 = .ok (.iconst 1, 1) := by decide +kernel
theorem dX5_readAmounts_115 : decode cX5_readAmounts 115 = .ok (.ireturn, 1) := by decide +kernel
theorem dX5_fail_0 : decode cX5_fail 0 = .ok (.aload_n 0, 1) := by decide +kernel
theorem dX5_fail_1 : decode cX5_fail 1 = .ok (.bipush (-2), 2) := by decide +kernel
theorem dX5_fail_3 : decode cX5_fail 3 = .ok (.bipush 8, 2) := by decide +kernel
theorem dX5_fail_5 : decode cX5_fail 5 = .ok (.aload_n 0, 1) := by decide +kernel
theorem dX5_fail_6 : decode cX5_fail 6 = .ok (.getfield 143, 3) := by decide +kernel
theorem dX5_fail_9 : decode cX5_fail 9 = .ok (.imul, 1) := by decide +kernel
theorem dX5_fail_10 : decode cX5_fail 10 = .ok (.iload_n 1, 1) := by decide +kernel
theorem dX5_fail_11 : decode cX5_fail 11 = .ok (.iadd, 1) := by decide +kernel
theorem dX5_fail_12 : decode cX5_fail 12 = .ok (.isub, 1) := by decide +kernel
theorem dX5_fail_13 : decode cX5_fail 13 = .ok (.putfield 146, 3) := by decide +kernel
theorem dX5_fail_16 : decode cX5_fail 16 = .ok (.iconst 0, 1) := by decide +kernel
theorem dX5_fail_17 : decode cX5_fail 17 = .ok (.ireturn, 1) := by decide +kernel
theorem dX5_nextToken_0 : decode cX5_nextToken 0 = .ok (.aload_n 0, 1) := by decide +kernel
theorem dX5_nextToken_1 : decode cX5_nextToken 1 = .ok (.getfield 35, 3) := by decide +kernel
theorem dX5_nextToken_4 : decode cX5_nextToken 4 = .ok (.istore_n 1, 1) := by decide +kernel
theorem dX5_nextToken_5 : decode cX5_nextToken 5 = .ok (.iload_n 1, 1) := by decide +kernel
theorem dX5_nextToken_6 : decode cX5_nextToken 6 = .ok (.aload_n 0, 1) := by decide +kernel
theorem dX5_nextToken_7 : decode cX5_nextToken 7 = .ok (.getfield 32, 3) := by decide +kernel
theorem dX5_nextToken_10 : decode cX5_nextToken 10 = .ok (.if_icmp .ge 19, 3) := by decide +kernel
theorem dX5_nextToken_13 : decode cX5_nextToken 13 = .ok (.aload_n 0, 1) := by decide +kernel
theorem dX5_nextToken_14 : decode cX5_nextToken 14 = .ok (.iload_n 1, 1) := by decide +kernel
theorem dX5_nextToken_15 : decode cX5_nextToken 15 = .ok (.invokevirtual 149, 3) := by decide +kernel
theorem dX5_nextToken_18 : decode cX5_nextToken 18 = .ok (.bipush 32, 2) := by decide +kernel
theorem dX5_nextToken_20 : decode cX5_nextToken 20 = .ok (.if_icmp .ne 9, 3) := by decide +kernel
theorem dX5_nextToken_23 : decode cX5_nextToken 23 = .ok (.iinc 1 1, 3) := by decide +kernel
theorem dX5_nextToken_26 : decode cX5_nextToken 26 = .ok (.goto (-21), 3) := by decide +kernel
theorem dX5_nextToken_29 : decode cX5_nextToken 29 = .ok (.aload_n 0, 1) := by decide +kernel
theorem dX5_nextToken_30 : decode cX5_nextToken 30 = .ok (.iload_n 1, 1) := by decide +kernel
theorem dX5_nextToken_31 : decode cX5_nextToken 31 = .ok (.putfield 143, 3) := by decide +kernel
theorem dX5_nextToken_34 : decode cX5_nextToken 34 = .ok (.aload_n 0, 1) := by decide +kernel
theorem dX5_nextToken_35 : decode cX5_nextToken 35 = .ok (.aload_n 0, 1) := by decide +kernel
theorem dX5_nextToken_36 : decode cX5_nextToken 36 = .ok (.iload_n 1, 1) := by decide +kernel
theorem dX5_nextToken_37 : decode cX5_nextToken 37 = .ok (.invokevirtual 153, 3) := by decide +kernel
theorem dX5_nextToken_40 : decode cX5_nextToken 40 = .ok (.putfield 48, 3) := by decide +kernel
theorem dX5_nextToken_43 : decode cX5_nextToken 43 = .ok (.aload_n 0, 1) := by decide +kernel
theorem dX5_nextToken_44 : decode cX5_nextToken 44 = .ok (.getfield 48, 3) := by decide +kernel
theorem dX5_nextToken_47 : decode cX5_nextToken 47 = .ok (.ifCond .eq 6, 3) := by decide +kernel
theorem dX5_nextToken_50 : decode cX5_nextToken 50 = .ok (.iinc 1 1, 3) := by decide +kernel
theorem dX5_nextToken_53 : decode cX5_nextToken 53 = .ok (.aload_n 0, 1) := by decide +kernel
theorem dX5_nextToken_54 : decode cX5_nextToken 54 = .ok (.getfield 48, 3) := by decide +kernel
theorem dX5_nextToken_57 : decode cX5_nextToken 57 = .ok (.iconst 1, 1) := by decide +kernel
theorem dX5_nextToken_58 : decode cX5_nextToken 58 = .ok (.if_icmp .eq 11, 3) := by decide +kernel
theorem dX5_nextToken_61 : decode cX5_nextToken 61 = .ok (.aload_n 0, 1) := by decide +kernel
theorem dX5_nextToken_62 : decode cX5_nextToken 62 = .ok (.getfield 48, 3) := by decide +kernel
theorem dX5_nextToken_65 : decode cX5_nextToken 65 = .ok (.iconst 2, 1) := by decide +kernel
theorem dX5_nextToken_66 : decode cX5_nextToken 66 = .ok (.if_icmp .ne 29, 3) := by decide +kernel
theorem dX5_nextToken_69 : decode cX5_nextToken 69 = .ok (.iload_n 1, 1) := by decide +kernel
theorem dX5_nextToken_70 : decode cX5_nextToken 70 = .ok (.aload_n 0, 1) := by decide +kernel
theorem dX5_nextToken_71 : decode cX5_nextToken 71 = .ok (.getfield 32, 3) := by decide +kernel
theorem dX5_nextToken_74 : decode cX5_nextToken 74 = .ok (.if_icmp .ge 21, 3) := by decide +kernel
theorem dX5_nextToken_77 : decode cX5_nextToken 77 = .ok (.aload_n 0, 1) := by decide +kernel
theorem dX5_nextToken_78 : decode cX5_nextToken 78 = .ok (.iload_n 1, 1) := by decide +kernel
theorem dX5_nextToken_79 : decode cX5_nextToken 79 = .ok (.invokevirtual 153, 3) := by decide +kernel
theorem dX5_nextToken_82 : decode cX5_nextToken 82 = .ok (.aload_n 0, 1) := by decide +kernel
theorem dX5_nextToken_83 : decode cX5_nextToken 83 = .ok (.getfield 48, 3) := by decide +kernel
theorem dX5_nextToken_86 : decode cX5_nextToken 86 = .ok (.if_icmp .ne 9, 3) := by decide +kernel
theorem dX5_nextToken_89 : decode cX5_nextToken 89 = .ok (.iinc 1 1, 3) := by decide +kernel
theorem dX5_nextToken_92 : decode cX5_nextToken 92 = .ok (.goto (-23), 3) := by decide +kernel
theorem dX5_nextToken_95 : decode cX5_nextToken 95 = .ok (.aload_n 0, 1) := by decide +kernel
theorem dX5_nextToken_96 : decode cX5_nextToken 96 = .ok (.iload_n 1, 1) := by decide +kernel
theorem dX5_nextToken_97 : decode cX5_nextToken 97 = .ok (.putfield 35, 3) := by decide +kernel
theorem dX5_nextToken_100 : decode cX5_nextToken 100 = .ok (.return_, 1) := by decide +kernel
theorem dX5_kindOfByte_0 : decode cX5_kindOfByte 0 = .ok (.iload_n 1, 1) := by decide +kernel
theorem dX5_kindOfByte_1 : decode cX5_kindOfByte 1 = .ok (.ifCond .lt 20, 3) := by decide +kernel
theorem dX5_kindOfByte_4 : decode cX5_kindOfByte 4 = .ok (.iload_n 1, 1) := by decide +kernel
theorem dX5_kindOfByte_5 : decode cX5_kindOfByte 5 = .ok (.aload_n 0, 1) := by decide +kernel
theorem dX5_kindOfByte_6 : decode cX5_kindOfByte 6 = .ok (.getfield 32, 3) := by decide +kernel
theorem dX5_kindOfByte_9 : decode cX5_kindOfByte 9 = .ok (.if_icmp .ge 12, 3) := by decide +kernel
theorem dX5_kindOfByte_12 : decode cX5_kindOfByte 12 = .ok (.iload_n 1, 1) := by decide +kernel
theorem dX5_kindOfByte_13 : decode cX5_kindOfByte 13 = .ok (.aload_n 0, 1) := by decide +kernel
theorem dX5_kindOfByte_14 : decode cX5_kindOfByte 14 = .ok (.getfield 9, 3) := by decide +kernel
theorem dX5_kindOfByte_17 : decode cX5_kindOfByte 17 = .ok (.arraylength, 1) := by decide +kernel
theorem dX5_kindOfByte_18 : decode cX5_kindOfByte 18 = .ok (.if_icmp .lt 5, 3) := by decide +kernel
theorem dX5_kindOfByte_21 : decode cX5_kindOfByte 21 = .ok (.iconst 0, 1) := by decide +kernel
theorem dX5_kindOfByte_22 : decode cX5_kindOfByte 22 = .ok (.ireturn, 1) := by decide +kernel
theorem dX5_kindOfByte_23 : decode cX5_kindOfByte 23 = .ok (.aload_n 0, 1) := by decide +kernel
theorem dX5_kindOfByte_24 : decode cX5_kindOfByte 24 = .ok (.getfield 9, 3) := by decide +kernel
theorem dX5_kindOfByte_27 : decode cX5_kindOfByte 27 = .ok (.iload_n 1, 1) := by decide +kernel
theorem dX5_kindOfByte_28 : decode cX5_kindOfByte 28 = .ok (.baload, 1) := by decide +kernel
theorem dX5_kindOfByte_29 : decode cX5_kindOfByte 29 = .ok (.istore_n 2, 1) := by decide +kernel
theorem dX5_kindOfByte_30 : decode cX5_kindOfByte 30 = .ok (.iload_n 2, 1) := by decide +kernel
theorem dX5_kindOfByte_31 : decode cX5_kindOfByte 31 = .ok (.bipush 97, 2) := by decide +kernel
theorem dX5_kindOfByte_33 : decode cX5_kindOfByte 33 = .ok (.if_icmp .lt 11, 3) := by decide +kernel
theorem dX5_kindOfByte_36 : decode cX5_kindOfByte 36 = .ok (.iload_n 2, 1) := by decide +kernel
theorem dX5_kindOfByte_37 : decode cX5_kindOfByte 37 = .ok (.bipush 122, 2) := by decide +kernel
theorem dX5_kindOfByte_39 : decode cX5_kindOfByte 39 = .ok (.if_icmp .gt 5, 3) := by decide +kernel
theorem dX5_kindOfByte_42 : decode cX5_kindOfByte 42 = .ok (.iconst 1, 1) := by decide +kernel
theorem dX5_kindOfByte_43 : decode cX5_kindOfByte 43 = .ok (.ireturn, 1) := by decide +kernel
theorem dX5_kindOfByte_44 : decode cX5_kindOfByte 44 = .ok (.iload_n 2, 1) := by decide +kernel
theorem dX5_kindOfByte_45 : decode cX5_kindOfByte 45 = .ok (.bipush 48, 2) := by decide +kernel
theorem dX5_kindOfByte_47 : decode cX5_kindOfByte 47 = .ok (.if_icmp .lt 11, 3) := by decide +kernel
theorem dX5_kindOfByte_50 : decode cX5_kindOfByte 50 = .ok (.iload_n 2, 1) := by decide +kernel
theorem dX5_kindOfByte_51 : decode cX5_kindOfByte 51 = .ok (.bipush 57, 2) := by decide +kernel
theorem dX5_kindOfByte_53 : decode cX5_kindOfByte 53 = .ok (.if_icmp .gt 5, 3) := by decide +kernel
theorem dX5_kindOfByte_56 : decode cX5_kindOfByte 56 = .ok (.iconst 2, 1) := by decide +kernel
theorem dX5_kindOfByte_57 : decode cX5_kindOfByte 57 = .ok (.ireturn, 1) := by decide +kernel
theorem dX5_kindOfByte_58 : decode cX5_kindOfByte 58 = .ok (.iload_n 2, 1) := by decide +kernel
theorem dX5_kindOfByte_59 : decode cX5_kindOfByte 59 = .ok (.bipush 59, 2) := by decide +kernel
theorem dX5_kindOfByte_61 : decode cX5_kindOfByte 61 = .ok (.if_icmp .ne 7, 3) := by decide +kernel
theorem dX5_kindOfByte_64 : decode cX5_kindOfByte 64 = .ok (.iconst 3, 1) := by decide +kernel
theorem dX5_kindOfByte_65 : decode cX5_kindOfByte 65 = .ok (.goto 4, 3) := by decide +kernel
theorem dX5_kindOfByte_68 : decode cX5_kindOfByte 68 = .ok (.iconst 4, 1) := by decide +kernel
theorem dX5_kindOfByte_69 : decode cX5_kindOfByte 69 = .ok (.ireturn, 1) := by decide +kernel
theorem dX5_byteAt_0 : decode cX5_byteAt 0 = .ok (.iload_n 1, 1) := by decide +kernel
theorem dX5_byteAt_1 : decode cX5_byteAt 1 = .ok (.ifCond .lt 21, 3) := by decide +kernel
theorem dX5_byteAt_4 : decode cX5_byteAt 4 = .ok (.iload_n 1, 1) := by decide +kernel
theorem dX5_byteAt_5 : decode cX5_byteAt 5 = .ok (.aload_n 0, 1) := by decide +kernel
theorem dX5_byteAt_6 : decode cX5_byteAt 6 = .ok (.getfield 9, 3) := by decide +kernel
theorem dX5_byteAt_9 : decode cX5_byteAt 9 = .ok (.arraylength, 1) := by decide +kernel
theorem dX5_byteAt_10 : decode cX5_byteAt 10 = .ok (.if_icmp .ge 12, 3) := by decide +kernel
theorem dX5_byteAt_13 : decode cX5_byteAt 13 = .ok (.aload_n 0, 1) := by decide +kernel
theorem dX5_byteAt_14 : decode cX5_byteAt 14 = .ok (.getfield 9, 3) := by decide +kernel
theorem dX5_byteAt_17 : decode cX5_byteAt 17 = .ok (.iload_n 1, 1) := by decide +kernel
theorem dX5_byteAt_18 : decode cX5_byteAt 18 = .ok (.baload, 1) := by decide +kernel
theorem dX5_byteAt_19 : decode cX5_byteAt 19 = .ok (.goto 4, 3) := by decide +kernel
theorem dX5_byteAt_22 : decode cX5_byteAt 22 = .ok (.iconst 0, 1) := by decide +kernel
theorem dX5_byteAt_23 : decode cX5_byteAt 23 = .ok (.ireturn, 1) := by decide +kernel
theorem dX5_tokenLength_0 : decode cX5_tokenLength 0 = .ok (.aload_n 0, 1) := by decide +kernel
theorem dX5_tokenLength_1 : decode cX5_tokenLength 1 = .ok (.getfield 35, 3) := by decide +kernel
theorem dX5_tokenLength_4 : decode cX5_tokenLength 4 = .ok (.aload_n 0, 1) := by decide +kernel
theorem dX5_tokenLength_5 : decode cX5_tokenLength 5 = .ok (.getfield 143, 3) := by decide +kernel
theorem dX5_tokenLength_8 : decode cX5_tokenLength 8 = .ok (.isub, 1) := by decide +kernel
theorem dX5_tokenLength_9 : decode cX5_tokenLength 9 = .ok (.ireturn, 1) := by decide +kernel
theorem dX5_isWord_0 : decode cX5_isWord 0 = .ok (.aload_n 0, 1) := by decide +kernel
theorem dX5_isWord_1 : decode cX5_isWord 1 = .ok (.getfield 48, 3) := by decide +kernel
theorem dX5_isWord_4 : decode cX5_isWord 4 = .ok (.iconst 1, 1) := by decide +kernel
theorem dX5_isWord_5 : decode cX5_isWord 5 = .ok (.if_icmp .ne 14, 3) := by decide +kernel
theorem dX5_isWord_8 : decode cX5_isWord 8 = .ok (.aload_n 0, 1) := by decide +kernel
theorem dX5_isWord_9 : decode cX5_isWord 9 = .ok (.invokevirtual 156, 3) := by decide +kernel
theorem dX5_isWord_12 : decode cX5_isWord 12 = .ok (.aload_n 1, 1) := by decide +kernel
theorem dX5_isWord_13 : decode cX5_isWord 13 = .ok (.invokevirtual 159, 3) := by decide +kernel
theorem dX5_isWord_16 : decode cX5_isWord 16 = .ok (.if_icmp .eq 5, 3) := by decide +kernel
theorem dX5_isWord_19 : decode cX5_isWord 19 = .ok (.iconst 0, 1) := by decide +kernel
theorem dX5_isWord_20 : decode cX5_isWord 20 = .ok (.ireturn, 1) := by decide +kernel
theorem dX5_isWord_21 : decode cX5_isWord 21 = .ok (.iconst 0, 1) := by decide +kernel
theorem dX5_isWord_22 : decode cX5_isWord 22 = .ok (.istore_n 2, 1) := by decide +kernel
theorem dX5_isWord_23 : decode cX5_isWord 23 = .ok (.iload_n 2, 1) := by decide +kernel
theorem dX5_isWord_24 : decode cX5_isWord 24 = .ok (.aload_n 1, 1) := by decide +kernel
theorem dX5_isWord_25 : decode cX5_isWord 25 = .ok (.invokevirtual 159, 3) := by decide +kernel
theorem dX5_isWord_28 : decode cX5_isWord 28 = .ok (.if_icmp .ge 29, 3) := by decide +kernel
theorem dX5_isWord_31 : decode cX5_isWord 31 = .ok (.aload_n 0, 1) := by decide +kernel
theorem dX5_isWord_32 : decode cX5_isWord 32 = .ok (.aload_n 0, 1) := by decide +kernel
theorem dX5_isWord_33 : decode cX5_isWord 33 = .ok (.getfield 143, 3) := by decide +kernel
theorem dX5_isWord_36 : decode cX5_isWord 36 = .ok (.iload_n 2, 1) := by decide +kernel
theorem dX5_isWord_37 : decode cX5_isWord 37 = .ok (.iadd, 1) := by decide +kernel
theorem dX5_isWord_38 : decode cX5_isWord 38 = .ok (.invokevirtual 149, 3) := by decide +kernel
theorem dX5_isWord_41 : decode cX5_isWord 41 = .ok (.aload_n 1, 1) := by decide +kernel
theorem dX5_isWord_42 : decode cX5_isWord 42 = .ok (.iload_n 2, 1) := by decide +kernel
theorem dX5_isWord_43 : decode cX5_isWord 43 = .ok (.invokevirtual 164, 3) := by decide +kernel
theorem dX5_isWord_46 : decode cX5_isWord 46 = .ok (.if_icmp .eq 5, 3) := by decide +kernel
theorem dX5_isWord_49 : decode cX5_isWord 49 = .ok (.iconst 0, 1) := by decide +kernel
theorem dX5_isWord_50 : decode cX5_isWord 50 = .ok (.ireturn, 1) := by decide +kernel
theorem dX5_isWord_51 : decode cX5_isWord 51 = .ok (.iinc 2 1, 3) := by decide +kernel
theorem dX5_isWord_54 : decode cX5_isWord 54 = .ok (.goto (-31), 3) := by decide +kernel
theorem dX5_isWord_57 : decode cX5_isWord 57 = .ok (.iconst 1, 1) := by decide +kernel
theorem dX5_isWord_58 : decode cX5_isWord 58 = .ok (.ireturn, 1) := by decide +kernel
theorem dX5_isName_0 : decode cX5_isName 0 = .ok (.aload_n 0, 1) := by decide +kernel
theorem dX5_isName_1 : decode cX5_isName 1 = .ok (.getfield 48, 3) := by decide +kernel
theorem dX5_isName_4 : decode cX5_isName 4 = .ok (.iconst 1, 1) := by decide +kernel
theorem dX5_isName_5 : decode cX5_isName 5 = .ok (.if_icmp .ne 16, 3) := by decide +kernel
theorem dX5_isName_8 : decode cX5_isName 8 = .ok (.aload_n 0, 1) := by decide +kernel
theorem dX5_isName_9 : decode cX5_isName 9 = .ok (.invokevirtual 156, 3) := by decide +kernel
theorem dX5_isName_12 : decode cX5_isName 12 = .ok (.bipush 8, 2) := by decide +kernel
theorem dX5_isName_14 : decode cX5_isName 14 = .ok (.if_icmp .gt 7, 3) := by decide +kernel
theorem dX5_isName_17 : decode cX5_isName 17 = .ok (.iconst 1, 1) := by decide +kernel
theorem dX5_isName_18 : decode cX5_isName 18 = .ok (.goto 4, 3) := by decide +kernel
theorem dX5_isName_21 : decode cX5_isName 21 = .ok (.iconst 0, 1) := by decide +kernel
theorem dX5_isName_22 : decode cX5_isName 22 = .ok (.ireturn, 1) := by decide +kernel
theorem dX5_nameOfToken_0 : decode cX5_nameOfToken 0 = .ok (.lconst 0, 1) := by decide +kernel
theorem dX5_nameOfToken_1 : decode cX5_nameOfToken 1 = .ok (.lstore_n 1, 1) := by decide +kernel
theorem dX5_nameOfToken_2 : decode cX5_nameOfToken 2 = .ok (.aload_n 0, 1) := by decide +kernel
theorem dX5_nameOfToken_3 : decode cX5_nameOfToken 3 = .ok (.getfield 143, 3) := by decide +kernel
theorem dX5_nameOfToken_6 : decode cX5_nameOfToken 6 = .ok (.istore_n 3, 1) := by decide +kernel
theorem dX5_nameOfToken_7 : decode cX5_nameOfToken 7 = .ok (.iload_n 3, 1) := by decide +kernel
theorem dX5_nameOfToken_8 : decode cX5_nameOfToken 8 = .ok (.aload_n 0, 1) := by decide +kernel
theorem dX5_nameOfToken_9 : decode cX5_nameOfToken 9 = .ok (.getfield 35, 3) := by decide +kernel
theorem dX5_nameOfToken_12 : decode cX5_nameOfToken 12 = .ok (.if_icmp .ge 21, 3) := by decide +kernel
theorem dX5_nameOfToken_15 : decode cX5_nameOfToken 15 = .ok (.lload_n 1, 1) := by decide +kernel
theorem dX5_nameOfToken_16 : decode cX5_nameOfToken 16 = .ok (.bipush 8, 2) := by decide +kernel
theorem dX5_nameOfToken_18 : decode cX5_nameOfToken 18 = .ok (.lshl, 1) := by decide +kernel
theorem dX5_nameOfToken_19 : decode cX5_nameOfToken 19 = .ok (.aload_n 0, 1) := by decide +kernel
theorem dX5_nameOfToken_20 : decode cX5_nameOfToken 20 = .ok (.iload_n 3, 1) := by decide +kernel
theorem dX5_nameOfToken_21 : decode cX5_nameOfToken 21 = .ok (.invokevirtual 149, 3) := by decide +kernel
theorem dX5_nameOfToken_24 : decode cX5_nameOfToken 24 = .ok (.i2l, 1) := by decide +kernel
theorem dX5_nameOfToken_25 : decode cX5_nameOfToken 25 = .ok (.lor, 1) := by decide +kernel
theorem dX5_nameOfToken_26 : decode cX5_nameOfToken 26 = .ok (.lstore_n 1, 1) := by decide +kernel
theorem dX5_nameOfToken_27 : decode cX5_nameOfToken 27 = .ok (.iinc 3 1, 3) := by decide +kernel
theorem dX5_nameOfToken_30 : decode cX5_nameOfToken 30 = .ok (.goto (-23), 3) := by decide +kernel
theorem dX5_nameOfToken_33 : decode cX5_nameOfToken 33 = .ok (.lload_n 1, 1) := by decide +kernel
theorem dX5_nameOfToken_34 : decode cX5_nameOfToken 34 = .ok (.lreturn, 1) := by decide +kernel
theorem dX5_isNumber_0 : decode cX5_isNumber 0 = .ok (.aload_n 0, 1) := by decide +kernel
theorem dX5_isNumber_1 : decode cX5_isNumber 1 = .ok (.getfield 48, 3) := by decide +kernel
theorem dX5_isNumber_4 : decode cX5_isNumber 4 = .ok (.iconst 2, 1) := by decide +kernel
theorem dX5_isNumber_5 : decode cX5_isNumber 5 = .ok (.if_icmp .ne 15, 3) := by decide +kernel
theorem dX5_isNumber_8 : decode cX5_isNumber 8 = .ok (.aload_n 0, 1) := by decide +kernel
theorem dX5_isNumber_9 : decode cX5_isNumber 9 = .ok (.invokevirtual 156, 3) := by decide +kernel
theorem dX5_isNumber_12 : decode cX5_isNumber 12 = .ok (.iconst 2, 1) := by decide +kernel
theorem dX5_isNumber_13 : decode cX5_isNumber 13 = .ok (.if_icmp .gt 7, 3) := by decide +kernel
theorem dX5_isNumber_16 : decode cX5_isNumber 16 = .ok (.iconst 1, 1) := by decide +kernel
theorem dX5_isNumber_17 : decode cX5_isNumber 17 = .ok (.goto 4, 3) := by decide +kernel
theorem dX5_isNumber_20 : decode cX5_isNumber 20 = .ok (.iconst 0, 1) := by decide +kernel
theorem dX5_isNumber_21 : decode cX5_isNumber 21 = .ok (.ireturn, 1) := by decide +kernel
theorem dX5_numberOfToken_0 : decode cX5_numberOfToken 0 = .ok (.iconst 0, 1) := by decide +kernel
theorem dX5_numberOfToken_1 : decode cX5_numberOfToken 1 = .ok (.istore_n 1, 1) := by decide +kernel
theorem dX5_numberOfToken_2 : decode cX5_numberOfToken 2 = .ok (.aload_n 0, 1) := by decide +kernel
theorem dX5_numberOfToken_3 : decode cX5_numberOfToken 3 = .ok (.getfield 143, 3) := by decide +kernel
theorem dX5_numberOfToken_6 : decode cX5_numberOfToken 6 = .ok (.istore_n 2, 1) := by decide +kernel
theorem dX5_numberOfToken_7 : decode cX5_numberOfToken 7 = .ok (.iload_n 2, 1) := by decide +kernel
theorem dX5_numberOfToken_8 : decode cX5_numberOfToken 8 = .ok (.aload_n 0, 1) := by decide +kernel
theorem dX5_numberOfToken_9 : decode cX5_numberOfToken 9 = .ok (.getfield 35, 3) := by decide +kernel
theorem dX5_numberOfToken_12 : decode cX5_numberOfToken 12 = .ok (.if_icmp .ge 23, 3) := by decide +kernel
theorem dX5_numberOfToken_15 : decode cX5_numberOfToken 15 = .ok (.bipush 10, 2) := by decide +kernel
theorem dX5_numberOfToken_17 : decode cX5_numberOfToken 17 = .ok (.iload_n 1, 1) := by decide +kernel
theorem dX5_numberOfToken_18 : decode cX5_numberOfToken 18 = .ok (.imul, 1) := by decide +kernel
theorem dX5_numberOfToken_19 : decode cX5_numberOfToken 19 = .ok (.aload_n 0, 1) := by decide +kernel
theorem dX5_numberOfToken_20 : decode cX5_numberOfToken 20 = .ok (.iload_n 2, 1) := by decide +kernel
theorem dX5_numberOfToken_21 : decode cX5_numberOfToken 21 = .ok (.invokevirtual 149, 3) := by decide +kernel
theorem dX5_numberOfToken_24 : decode cX5_numberOfToken 24 = .ok (.iadd, 1) := by decide +kernel
theorem dX5_numberOfToken_25 : decode cX5_numberOfToken 25 = .ok (.bipush 48, 2) := by decide +kernel
theorem dX5_numberOfToken_27 : decode cX5_numberOfToken 27 = .ok (.isub, 1) := by decide +kernel
theorem dX5_numberOfToken_28 : decode cX5_numberOfToken 28 = .ok (.istore_n 1, 1) := by decide +kernel
theorem dX5_numberOfToken_29 : decode cX5_numberOfToken 29 = .ok (.iinc 2 1, 3) := by decide +kernel
theorem dX5_numberOfToken_32 : decode cX5_numberOfToken 32 = .ok (.goto (-25), 3) := by decide +kernel
theorem dX5_numberOfToken_35 : decode cX5_numberOfToken 35 = .ok (.iload_n 1, 1) := by decide +kernel
theorem dX5_numberOfToken_36 : decode cX5_numberOfToken 36 = .ok (.ireturn, 1) := by decide +kernel
theorem dX5_kindOfToken_0 : decode cX5_kindOfToken 0 = .ok (.aload_n 0, 1) := by decide +kernel
theorem dX5_kindOfToken_1 : decode cX5_kindOfToken 1 = .ok (.ldc 168, 2) := by decide +kernel
theorem dX5_kindOfToken_3 : decode cX5_kindOfToken 3 = .ok (.invokevirtual 61, 3) := by decide +kernel
theorem dX5_kindOfToken_6 : decode cX5_kindOfToken 6 = .ok (.ifCond .eq 5, 3) := by decide +kernel
theorem dX5_kindOfToken_9 : decode cX5_kindOfToken 9 = .ok (.iconst 0, 1) := by decide +kernel
theorem dX5_kindOfToken_10 : decode cX5_kindOfToken 10 = .ok (.ireturn, 1) := by decide +kernel
theorem dX5_kindOfToken_11 : decode cX5_kindOfToken 11 = .ok (.aload_n 0, 1) := by decide +kernel
theorem dX5_kindOfToken_12 : decode cX5_kindOfToken 12 = .ok (.ldc 170, 2) := by decide +kernel
theorem dX5_kindOfToken_14 : decode cX5_kindOfToken 14 = .ok (.invokevirtual 61, 3) := by decide +kernel
theorem dX5_kindOfToken_17 : decode cX5_kindOfToken 17 = .ok (.ifCond .eq 5, 3) := by decide +kernel
theorem dX5_kindOfToken_20 : decode cX5_kindOfToken 20 = .ok (.iconst 1, 1) := by decide +kernel
theorem dX5_kindOfToken_21 : decode cX5_kindOfToken 21 = .ok (.ireturn, 1) := by decide +kernel
theorem dX5_kindOfToken_22 : decode cX5_kindOfToken 22 = .ok (.aload_n 0, 1) := by decide +kernel
theorem dX5_kindOfToken_23 : decode cX5_kindOfToken 23 = .ok (.ldc 172, 2) := by decide +kernel
theorem dX5_kindOfToken_25 : decode cX5_kindOfToken 25 = .ok (.invokevirtual 61, 3) := by decide +kernel
theorem dX5_kindOfToken_28 : decode cX5_kindOfToken 28 = .ok (.ifCond .eq 5, 3) := by decide +kernel
theorem dX5_kindOfToken_31 : decode cX5_kindOfToken 31 = .ok (.iconst 2, 1) := by decide +kernel
theorem dX5_kindOfToken_32 : decode cX5_kindOfToken 32 = .ok (.ireturn, 1) := by decide +kernel
theorem dX5_kindOfToken_33 : decode cX5_kindOfToken 33 = .ok (.aload_n 0, 1) := by decide +kernel
theorem dX5_kindOfToken_34 : decode cX5_kindOfToken 34 = .ok (.ldc 174, 2) := by decide +kernel
theorem dX5_kindOfToken_36 : decode cX5_kindOfToken 36 = .ok (.invokevirtual 61, 3) := by decide +kernel
theorem dX5_kindOfToken_39 : decode cX5_kindOfToken 39 = .ok (.ifCond .eq 5, 3) := by decide +kernel
theorem dX5_kindOfToken_42 : decode cX5_kindOfToken 42 = .ok (.iconst 3, 1) := by decide +kernel
theorem dX5_kindOfToken_43 : decode cX5_kindOfToken 43 = .ok (.ireturn, 1) := by decide +kernel
theorem dX5_kindOfToken_44 : decode cX5_kindOfToken 44 = .ok (.aload_n 0, 1) := by decide +kernel
theorem dX5_kindOfToken_45 : decode cX5_kindOfToken 45 = .ok (.ldc 176, 2) := by decide +kernel
theorem dX5_kindOfToken_47 : decode cX5_kindOfToken 47 = .ok (.invokevirtual 61, 3) := by decide +kernel
theorem dX5_kindOfToken_50 : decode cX5_kindOfToken 50 = .ok (.ifCond .eq 7, 3) := by decide +kernel
theorem dX5_kindOfToken_53 : decode cX5_kindOfToken 53 = .ok (.iconst 4, 1) := by decide +kernel
theorem dX5_kindOfToken_54 : decode cX5_kindOfToken 54 = .ok (.goto 4, 3) := by decide +kernel
theorem dX5_kindOfToken_57 : decode cX5_kindOfToken 57 = .ok (.iconst (-1), 1) := by decide +kernel
theorem dX5_kindOfToken_58 : decode cX5_kindOfToken 58 = .ok (.ireturn, 1) := by decide +kernel
theorem dX6_init_0 : decode cX6_init 0 = .ok (.aload_n 0, 1) := by decide +kernel
theorem dX6_init_1 : decode cX6_init 1 = .ok (.invokespecial 3, 3) := by decide +kernel
theorem dX6_init_4 : decode cX6_init 4 = .ok (.aload_n 0, 1) := by decide +kernel
theorem dX6_init_5 : decode cX6_init 5 = .ok (.new 9, 3) := by decide +kernel
theorem dX6_init_8 : decode cX6_init 8 = .ok (.dup, 1) := by decide +kernel
theorem dX6_init_9 : decode cX6_init 9 = .ok (.invokespecial 11, 3) := by decide +kernel
theorem dX6_init_12 : decode cX6_init 12 = .ok (.putfield 12, 3) := by decide +kernel
theorem dX6_init_15 : decode cX6_init 15 = .ok (.aload_n 0, 1) := by decide +kernel
theorem dX6_init_16 : decode cX6_init 16 = .ok (.new 16, 3) := by decide +kernel
theorem dX6_init_19 : decode cX6_init 19 = .ok (.dup, 1) := by decide +kernel
theorem dX6_init_20 : decode cX6_init 20 = .ok (.invokespecial 18, 3) := by decide +kernel
theorem dX6_init_23 : decode cX6_init 23 = .ok (.putfield 19, 3) := by decide +kernel
theorem dX6_init_26 : decode cX6_init 26 = .ok (.aload_n 0, 1) := by decide +kernel
theorem dX6_init_27 : decode cX6_init 27 = .ok (.new 23, 3) := by decide +kernel
theorem dX6_init_30 : decode cX6_init 30 = .ok (.dup, 1) := by decide +kernel
theorem dX6_init_31 : decode cX6_init 31 = .ok (.invokespecial 25, 3) := by decide +kernel
theorem dX6_init_34 : decode cX6_init 34 = .ok (.putfield 26, 3) := by decide +kernel
theorem dX6_init_37 : decode cX6_init 37 = .ok (.aload_n 0, 1) := by decide +kernel
theorem dX6_init_38 : decode cX6_init 38 = .ok (.new 30, 3) := by decide +kernel
theorem dX6_init_41 : decode cX6_init 41 = .ok (.dup, 1) := by decide +kernel
theorem dX6_init_42 : decode cX6_init 42 = .ok (.invokespecial 32, 3) := by decide +kernel
theorem dX6_init_45 : decode cX6_init 45 = .ok (.putfield 33, 3) := by decide +kernel
theorem dX6_init_48 : decode cX6_init 48 = .ok (.aload_n 0, 1) := by decide +kernel
theorem dX6_init_49 : decode cX6_init 49 = .ok (.iconst 2, 1) := by decide +kernel
theorem dX6_init_50 : decode cX6_init 50 = .ok (.anewarray 37, 3) := by decide +kernel
theorem dX6_init_53 : decode cX6_init 53 = .ok (.putfield 39, 3) := by decide +kernel
theorem dX6_init_56 : decode cX6_init 56 = .ok (.aload_n 0, 1) := by decide +kernel
theorem dX6_init_57 : decode cX6_init 57 = .ok (.iconst 2, 1) := by decide +kernel
theorem dX6_init_58 : decode cX6_init 58 = .ok (.newarray .boolean, 2) := by decide +kernel
theorem dX6_init_60 : decode cX6_init 60 = .ok (.putfield 43, 3) := by decide +kernel
theorem dX6_init_63 : decode cX6_init 63 = .ok (.iconst 0, 1) := by decide +kernel
theorem dX6_init_64 : decode cX6_init 64 = .ok (.istore_n 1, 1) := by decide +kernel
theorem dX6_init_65 : decode cX6_init 65 = .ok (.iload_n 1, 1) := by decide +kernel
theorem dX6_init_66 : decode cX6_init 66 = .ok (.iconst 2, 1) := by decide +kernel
theorem dX6_init_67 : decode cX6_init 67 = .ok (.if_icmp .ge 22, 3) := by decide +kernel
theorem dX6_init_70 : decode cX6_init 70 = .ok (.aload_n 0, 1) := by decide +kernel
theorem dX6_init_71 : decode cX6_init 71 = .ok (.getfield 39, 3) := by decide +kernel
theorem dX6_init_74 : decode cX6_init 74 = .ok (.iload_n 1, 1) := by decide +kernel
theorem dX6_init_75 : decode cX6_init 75 = .ok (.new 37, 3) := by decide +kernel
theorem dX6_init_78 : decode cX6_init 78 = .ok (.dup, 1) := by decide +kernel
theorem dX6_init_79 : decode cX6_init 79 = .ok (.invokespecial 47, 3) := by decide +kernel
theorem dX6_init_82 : decode cX6_init 82 = .ok (.aastore, 1) := by decide +kernel
theorem dX6_init_83 : decode cX6_init 83 = .ok (.iinc 1 1, 3) := by decide +kernel
theorem dX6_init_86 : decode cX6_init 86 = .ok (.goto (-21), 3) := by decide +kernel
theorem dX6_init_89 : decode cX6_init 89 = .ok (.return_, 1) := by decide +kernel
theorem dX6_append_0 : decode cX6_append 0 = .ok (.aload_n 0, 1) := by decide +kernel
theorem dX6_append_1 : decode cX6_append 1 = .ok (.getfield 19, 3) := by decide +kernel
theorem dX6_append_4 : decode cX6_append 4 = .ok (.getfield 48, 3) := by decide +kernel
theorem dX6_append_7 : decode cX6_append 7 = .ok (.bipush 20, 2) := by decide +kernel
theorem dX6_append_9 : decode cX6_append 9 = .ok (.iadd, 1) := by decide +kernel
theorem dX6_append_10 : decode cX6_append 10 = .ok (.sipush 400, 3) := by decide +kernel
theorem dX6_append_13 : decode cX6_append 13 = .ok (.if_icmp .le 5, 3) := by decide +kernel
theorem dX6_append_16 : decode cX6_append 16 = .ok (.iconst (-1), 1) := by decide +kernel
theorem dX6_append_17 : decode cX6_append 17 = .ok (.ireturn, 1) := by decide +kernel
theorem dX6_append_18 : decode cX6_append 18 = .ok (.aload_n 0, 1) := by decide +kernel
theorem dX6_append_19 : decode cX6_append 19 = .ok (.getfield 19, 3) := by decide +kernel
theorem dX6_append_22 : decode cX6_append 22 = .ok (.iload_n 1, 1) := by decide +kernel
theorem dX6_append_23 : decode cX6_append 23 = .ok (.invokevirtual 52, 3) := by decide +kernel
theorem dX6_append_26 : decode cX6_append 26 = .ok (.aload_n 0, 1) := by decide +kernel
theorem dX6_append_27 : decode cX6_append 27 = .ok (.getfield 19, 3) := by decide +kernel
theorem dX6_append_30 : decode cX6_append 30 = .ok (.iload_n 2, 1) := by decide +kernel
theorem dX6_append_31 : decode cX6_append 31 = .ok (.invokevirtual 52, 3) := by decide +kernel
theorem dX6_append_34 : decode cX6_append 34 = .ok (.aload_n 0, 1) := by decide +kernel
theorem dX6_append_35 : decode cX6_append 35 = .ok (.getfield 19, 3) := by decide +kernel
theorem dX6_append_38 : decode cX6_append 38 = .ok (.iload_n 3, 1) := by decide +kernel
theorem dX6_append_39 : decode cX6_append 39 = .ok (.invokevirtual 52, 3) := by decide +kernel
theorem dX6_append_42 : decode cX6_append 42 = .ok (.aload_n 0, 1) := by decide +kernel
theorem dX6_append_43 : decode cX6_append 43 = .ok (.getfield 19, 3) := by decide +kernel
theorem dX6_append_46 : decode cX6_append 46 = .ok (.iload 4, 2) := by decide +kernel
theorem dX6_append_48 : decode cX6_append 48 = .ok (.invokevirtual 52, 3) := by decide +kernel
theorem dX6_append_51 : decode cX6_append 51 = .ok (.aload_n 0, 1) := by decide +kernel
theorem dX6_append_52 : decode cX6_append 52 = .ok (.getfield 19, 3) := by decide +kernel
theorem dX6_append_55 : decode cX6_append 55 = .ok (.iload 5, 2) := by decide +kernel
theorem dX6_append_57 : decode cX6_append 57 = .ok (.invokevirtual 52, 3) := by decide +kernel
theorem dX6_append_60 : decode cX6_append 60 = .ok (.aload_n 0, 1) := by decide +kernel
theorem dX6_append_61 : decode cX6_append 61 = .ok (.getfield 19, 3) := by decide +kernel
theorem dX6_append_64 : decode cX6_append 64 = .ok (.getfield 48, 3) := by decide +kernel
theorem dX6_append_67 : decode cX6_append 67 = .ok (.ireturn, 1) := by decide +kernel
theorem dX6_parse_0 : decode cX6_parse 0 = .ok (.iload_n 1, 1) := by decide +kernel
theorem dX6_parse_1 : decode cX6_parse 1 = .ok (.ifCond .lt 14, 3) := by decide +kernel
theorem dX6_parse_4 : decode cX6_parse 4 = .ok (.iload_n 1, 1) := by decide +kernel
theorem dX6_parse_5 : decode cX6_parse 5 = .ok (.aload_n 0, 1) := by decide +kernel
theorem dX6_parse_6 : decode cX6_parse 6 = .ok (.getfield 19, 3) := by decide +kernel
theorem dX6_parse_9 : decode cX6_parse 9 = .ok (.getfield 48, 3) := by decide +kernel
theorem dX6_parse_12 : decode cX6_parse 12 = .ok (.if_icmp .le 13, 3) := by decide +kernel
theorem dX6_parse_15 : decode cX6_parse 15 = .ok (.new 56, 3) := by decide +kernel
theorem dX6_parse_18 : decode cX6_parse 18 = .ok (.dup, 1) := by decide +kernel
theorem dX6_parse_19 : decode cX6_parse 19 = .ok (.ldc 58, 2) := by decide +kernel
theorem dX6_parse_21 : decode cX6_parse 21 = .ok (.invokespecial 60, 3) := by decide +kernel
theorem dX6_parse_24 : decode cX6_parse 24 = .ok (.athrow, 1) := by decide +kernel
theorem dX6_parse_25 : decode cX6_parse 25 = .ok (.aload_n 0, 1) := by decide +kernel
theorem dX6_parse_26 : decode cX6_parse 26 = .ok (.getfield 19, 3) := by decide +kernel
theorem dX6_parse_29 : decode cX6_parse 29 = .ok (.iconst 0, 1) := by decide +kernel
theorem dX6_parse_30 : decode cX6_parse 30 = .ok (.putfield 48, 3) := by decide +kernel
theorem dX6_parse_33 : decode cX6_parse 33 = .ok (.aload_n 0, 1) := by decide +kernel
theorem dX6_parse_34 : decode cX6_parse 34 = .ok (.getfield 19, 3) := by decide +kernel
theorem dX6_parse_37 : decode cX6_parse 37 = .ok (.iload_n 1, 1) := by decide +kernel
theorem dX6_parse_38 : decode cX6_parse 38 = .ok (.invokevirtual 63, 3) := by decide +kernel
theorem dX6_parse_41 : decode cX6_parse 41 = .ok (.ifCond .ne 11, 3) := by decide +kernel
theorem dX6_parse_44 : decode cX6_parse 44 = .ok (.aload_n 0, 1) := by decide +kernel
theorem dX6_parse_45 : decode cX6_parse 45 = .ok (.getfield 19, 3) := by decide +kernel
theorem dX6_parse_48 : decode cX6_parse 48 = .ok (.getfield 67, 3) := by decide +kernel
theorem dX6_parse_51 : decode cX6_parse 51 = .ok (.ireturn, 1) := by decide +kernel
theorem dX6_parse_52 : decode cX6_parse 52 = .ok (.aload_n 0, 1) := by decide +kernel
theorem dX6_parse_53 : decode cX6_parse 53 = .ok (.getfield 12, 3) := by decide +kernel
theorem dX6_parse_56 : decode cX6_parse 56 = .ok (.astore_n 2, 1) := by decide +kernel
theorem dX6_parse_57 : decode cX6_parse 57 = .ok (.aload_n 0, 1) := by decide +kernel
theorem dX6_parse_58 : decode cX6_parse 58 = .ok (.aload_n 0, 1) := by decide +kernel
theorem dX6_parse_59 : decode cX6_parse 59 = .ok (.getfield 19, 3) := by decide +kernel
theorem dX6_parse_62 : decode cX6_parse 62 = .ok (.getfield 70, 3) := by decide +kernel
theorem dX6_parse_65 : decode cX6_parse 65 = .ok (.putfield 12, 3) := by decide +kernel
theorem dX6_parse_68 : decode cX6_parse 68 = .ok (.aload_n 0, 1) := by decide +kernel
theorem dX6_parse_69 : decode cX6_parse 69 = .ok (.getfield 19, 3) := by decide +kernel
theorem dX6_parse_72 : decode cX6_parse 72 = .ok (.aload_n 2, 1) := by decide +kernel
theorem dX6_parse_73 : decode cX6_parse 73 = .ok (.putfield 70, 3) := by decide +kernel
theorem dX6_parse_76 : decode cX6_parse 76 = .ok (.aload_n 0, 1) := by decide +kernel
theorem dX6_parse_77 : decode cX6_parse 77 = .ok (.getfield 12, 3) := by decide +kernel
theorem dX6_parse_80 : decode cX6_parse 80 = .ok (.invokevirtual 73, 3) := by decide +kernel
theorem dX6_parse_83 : decode cX6_parse 83 = .ok (.aload_n 0, 1) := by decide +kernel
theorem dX6_parse_84 : decode cX6_parse 84 = .ok (.getfield 26, 3) := by decide +kernel
theorem dX6_parse_87 : decode cX6_parse 87 = .ok (.invokevirtual 76, 3) := by decide +kernel
theorem dX6_parse_90 : decode cX6_parse 90 = .ok (.aload_n 0, 1) := by decide +kernel
theorem dX6_parse_91 : decode cX6_parse 91 = .ok (.getfield 33, 3) := by decide +kernel
theorem dX6_parse_94 : decode cX6_parse 94 = .ok (.invokevirtual 79, 3) := by decide +kernel
theorem dX6_parse_97 : decode cX6_parse 97 = .ok (.iconst 0, 1) := by decide +kernel
theorem dX6_parse_98 : decode cX6_parse 98 = .ok (.istore_n 3, 1) := by decide +kernel
theorem dX6_parse_99 : decode cX6_parse 99 = .ok (.iload_n 3, 1) := by decide +kernel
theorem dX6_parse_100 : decode cX6_parse 100 = .ok (.iconst 2, 1) := by decide +kernel
theorem dX6_parse_101 : decode cX6_parse 101 = .ok (.if_icmp .ge 16, 3) := by decide +kernel
theorem dX6_parse_104 : decode cX6_parse 104 = .ok (.aload_n 0, 1) := by decide +kernel
theorem dX6_parse_105 : decode cX6_parse 105 = .ok (.getfield 43, 3) := by decide +kernel
theorem dX6_parse_108 : decode cX6_parse 108 = .ok (.iload_n 3, 1) := by decide +kernel
theorem dX6_parse_109 : decode cX6_parse 109 = .ok (.iconst 0, 1) := by decide +kernel
theorem dX6_parse_110 : decode cX6_parse 110 = .ok (.bastore, 1) := by decide +kernel
theorem dX6_parse_111 : decode cX6_parse 111 = .ok (.iinc 3 1, 3) := by decide +kernel
theorem dX6_parse_114 : decode cX6_parse 114 = .ok (.goto (-15), 3) := by decide +kernel
theorem dX6_parse_117 : decode cX6_parse 117 = .ok (.aload_n 0, 1) := by decide +kernel
theorem dX6_parse_118 : decode cX6_parse 118 = .ok (.getfield 12, 3) := by decide +kernel
theorem dX6_parse_121 : decode cX6_parse 121 = .ok (.getfield 82, 3) := by decide +kernel
theorem dX6_parse_124 : decode cX6_parse 124 = .ok (.ireturn, 1) := by decide +kernel
theorem dX6_size_0 : decode cX6_size 0 = .ok (.aload_n 0, 1) := by decide +kernel
theorem dX6_size_1 : decode cX6_size 1 = .ok (.getfield 12, 3) := by decide +kernel
theorem dX6_size_4 : decode cX6_size 4 = .ok (.getfield 85, 3) := by decide +kernel
theorem dX6_size_7 : decode cX6_size 7 = .ok (.astore_n 2, 1) := by decide +kernel
theorem dX6_size_8 : decode cX6_size 8 = .ok (.iload_n 1, 1) := by decide +kernel
theorem dX6_size_9 : decode cX6_size 9 = .ok (.tableswitch 128 0 9 #[55, 63, 68, 76, 84, 97, 105, 110, 115, 120], 55) := by decide +kernel
theorem dX6_size_64 : decode cX6_size 64 = .ok (.aload_n 0, 1) := by decide +kernel
theorem dX6_size_65 : decode cX6_size 65 = .ok (.getfield 12, 3) := by decide +kernel
theorem dX6_size_68 : decode cX6_size 68 = .ok (.getfield 82, 3) := by decide +kernel
theorem dX6_size_71 : decode cX6_size 71 = .ok (.ireturn, 1) := by decide +kernel
theorem dX6_size_72 : decode cX6_size 72 = .ok (.aload_n 2, 1) := by decide +kernel
theorem dX6_size_73 : decode cX6_size 73 = .ok (.getfield 89, 3) := by decide +kernel
theorem dX6_size_76 : decode cX6_size 76 = .ok (.ireturn, 1) := by decide +kernel
theorem dX6_size_77 : decode cX6_size 77 = .ok (.aload_n 2, 1) := by decide +kernel
theorem dX6_size_78 : decode cX6_size 78 = .ok (.getfield 92, 3) := by decide +kernel
theorem dX6_size_81 : decode cX6_size 81 = .ok (.invokestatic 95, 3) := by decide +kernel
theorem dX6_size_84 : decode cX6_size 84 = .ok (.ireturn, 1) := by decide +kernel
theorem dX6_size_85 : decode cX6_size 85 = .ok (.aload_n 0, 1) := by decide +kernel
theorem dX6_size_86 : decode cX6_size 86 = .ok (.getfield 12, 3) := by decide +kernel
theorem dX6_size_89 : decode cX6_size 89 = .ok (.getfield 99, 3) := by decide +kernel
theorem dX6_size_92 : decode cX6_size 92 = .ok (.ireturn, 1) := by decide +kernel
theorem dX6_size_93 : decode cX6_size 93 = .ok (.aload_n 2, 1) := by decide +kernel
theorem dX6_size_94 : decode cX6_size 94 = .ok (.getfield 102, 3) := by decide +kernel
theorem dX6_size_97 : decode cX6_size 97 = .ok (.ifCond .eq 7, 3) := by decide +kernel
theorem dX6_size_100 : decode cX6_size 100 = .ok (.iconst 1, 1) := by decide +kernel
theorem dX6_size_101 : decode cX6_size 101 = .ok (.goto 4, 3) := by decide +kernel
theorem dX6_size_104 : decode cX6_size 104 = .ok (.iconst 0, 1) := by decide +kernel
theorem dX6_size_105 : decode cX6_size 105 = .ok (.ireturn, 1) := by decide +kernel
theorem dX6_size_106 : decode cX6_size 106 = .ok (.aload_n 0, 1) := by decide +kernel
theorem dX6_size_107 : decode cX6_size 107 = .ok (.getfield 19, 3) := by decide +kernel
theorem dX6_size_110 : decode cX6_size 110 = .ok (.getfield 48, 3) := by decide +kernel
theorem dX6_size_113 : decode cX6_size 113 = .ok (.ireturn, 1) := by decide +kernel
theorem dX6_size_114 : decode cX6_size 114 = .ok (.aload_n 2, 1) := by decide +kernel
theorem dX6_size_115 : decode cX6_size 115 = .ok (.getfield 106, 3) := by decide +kernel
theorem dX6_size_118 : decode cX6_size 118 = .ok (.ireturn, 1) := by decide +kernel
theorem dX6_size_119 : decode cX6_size 119 = .ok (.aload_n 0, 1) := by decide +kernel
theorem dX6_size_120 : decode cX6_size 120 = .ok (.invokevirtual 109, 3) := by decide +kernel
theorem dX6_size_123 : decode cX6_size 123 = .ok (.ireturn, 1) := by decide +kernel
theorem dX6_size_124 : decode cX6_size 124 = .ok (.aload_n 0, 1) := by decide +kernel
theorem dX6_size_125 : decode cX6_size 125 = .ok (.invokevirtual 113, 3) := by decide +kernel
