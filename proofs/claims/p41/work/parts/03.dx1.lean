theorem dX0_init_0 : decode cX0_init 0 = .ok (.aload_n 0, 1) := by decide +kernel
theorem dX0_init_1 : decode cX0_init 1 = .ok (.invokespecial 3, 3) := by decide +kernel
theorem dX0_init_4 : decode cX0_init 4 = .ok (.aload_n 0, 1) := by decide +kernel
theorem dX0_init_5 : decode cX0_init 5 = .ok (.bipush 6, 2) := by decide +kernel
theorem dX0_init_7 : decode cX0_init 7 = .ok (.anewarray 9, 3) := by decide +kernel
theorem dX0_init_10 : decode cX0_init 10 = .ok (.putfield 11, 3) := by decide +kernel
theorem dX0_init_13 : decode cX0_init 13 = .ok (.aload_n 0, 1) := by decide +kernel
theorem dX0_init_14 : decode cX0_init 14 = .ok (.new 17, 3) := by decide +kernel
theorem dX0_init_17 : decode cX0_init 17 = .ok (.dup, 1) := by decide +kernel
theorem dX0_init_18 : decode cX0_init 18 = .ok (.invokespecial 19, 3) := by decide +kernel
theorem dX0_init_21 : decode cX0_init 21 = .ok (.putfield 20, 3) := by decide +kernel
theorem dX0_init_24 : decode cX0_init 24 = .ok (.iconst 0, 1) := by decide +kernel
theorem dX0_init_25 : decode cX0_init 25 = .ok (.istore_n 1, 1) := by decide +kernel
theorem dX0_init_26 : decode cX0_init 26 = .ok (.iload_n 1, 1) := by decide +kernel
theorem dX0_init_27 : decode cX0_init 27 = .ok (.bipush 6, 2) := by decide +kernel
theorem dX0_init_29 : decode cX0_init 29 = .ok (.if_icmp .ge 22, 3) := by decide +kernel
theorem dX0_init_32 : decode cX0_init 32 = .ok (.aload_n 0, 1) := by decide +kernel
theorem dX0_init_33 : decode cX0_init 33 = .ok (.getfield 11, 3) := by decide +kernel
theorem dX0_init_36 : decode cX0_init 36 = .ok (.iload_n 1, 1) := by decide +kernel
theorem dX0_init_37 : decode cX0_init 37 = .ok (.new 9, 3) := by decide +kernel
theorem dX0_init_40 : decode cX0_init 40 = .ok (.dup, 1) := by decide +kernel
theorem dX0_init_41 : decode cX0_init 41 = .ok (.invokespecial 24, 3) := by decide +kernel
theorem dX0_init_44 : decode cX0_init 44 = .ok (.aastore, 1) := by decide +kernel
theorem dX0_init_45 : decode cX0_init 45 = .ok (.iinc 1 1, 3) := by decide +kernel
theorem dX0_init_48 : decode cX0_init 48 = .ok (.goto (-22), 3) := by decide +kernel
theorem dX0_init_51 : decode cX0_init 51 = .ok (.return_, 1) := by decide +kernel
theorem dX0_clear_0 : decode cX0_clear 0 = .ok (.aload_n 0, 1) := by decide +kernel
theorem dX0_clear_1 : decode cX0_clear 1 = .ok (.iconst 0, 1) := by decide +kernel
theorem dX0_clear_2 : decode cX0_clear 2 = .ok (.putfield 25, 3) := by decide +kernel
theorem dX0_clear_5 : decode cX0_clear 5 = .ok (.aload_n 0, 1) := by decide +kernel
theorem dX0_clear_6 : decode cX0_clear 6 = .ok (.iconst 0, 1) := by decide +kernel
theorem dX0_clear_7 : decode cX0_clear 7 = .ok (.putfield 29, 3) := by decide +kernel
theorem dX0_clear_10 : decode cX0_clear 10 = .ok (.aload_n 0, 1) := by decide +kernel
theorem dX0_clear_11 : decode cX0_clear 11 = .ok (.getfield 20, 3) := by decide +kernel
theorem dX0_clear_14 : decode cX0_clear 14 = .ok (.invokevirtual 32, 3) := by decide +kernel
theorem dX0_clear_17 : decode cX0_clear 17 = .ok (.return_, 1) := by decide +kernel
theorem dX0_ruleAt_0 : decode cX0_ruleAt 0 = .ok (.aload_n 0, 1) := by decide +kernel
theorem dX0_ruleAt_1 : decode cX0_ruleAt 1 = .ok (.getfield 11, 3) := by decide +kernel
theorem dX0_ruleAt_4 : decode cX0_ruleAt 4 = .ok (.iconst 0, 1) := by decide +kernel
theorem dX0_ruleAt_5 : decode cX0_ruleAt 5 = .ok (.iload_n 1, 1) := by decide +kernel
theorem dX0_ruleAt_6 : decode cX0_ruleAt 6 = .ok (.iconst 5, 1) := by decide +kernel
theorem dX0_ruleAt_7 : decode cX0_ruleAt 7 = .ok (.invokestatic 35, 3) := by decide +kernel
theorem dX0_ruleAt_10 : decode cX0_ruleAt 10 = .ok (.invokestatic 41, 3) := by decide +kernel
theorem dX0_ruleAt_13 : decode cX0_ruleAt 13 = .ok (.aaload, 1) := by decide +kernel
theorem dX0_ruleAt_14 : decode cX0_ruleAt 14 = .ok (.areturn, 1) := by decide +kernel
theorem dX0_ruleOfHeap_0 : decode cX0_ruleOfHeap 0 = .ok (.aload_n 0, 1) := by decide +kernel
theorem dX0_ruleOfHeap_1 : decode cX0_ruleOfHeap 1 = .ok (.aload_n 0, 1) := by decide +kernel
theorem dX0_ruleOfHeap_2 : decode cX0_ruleOfHeap 2 = .ok (.getfield 20, 3) := by decide +kernel
theorem dX0_ruleOfHeap_5 : decode cX0_ruleOfHeap 5 = .ok (.getfield 44, 3) := by decide +kernel
theorem dX0_ruleOfHeap_8 : decode cX0_ruleOfHeap 8 = .ok (.iload_n 1, 1) := by decide +kernel
theorem dX0_ruleOfHeap_9 : decode cX0_ruleOfHeap 9 = .ok (.invokestatic 47, 3) := by decide +kernel
theorem dX0_ruleOfHeap_12 : decode cX0_ruleOfHeap 12 = .ok (.invokevirtual 50, 3) := by decide +kernel
theorem dX0_ruleOfHeap_15 : decode cX0_ruleOfHeap 15 = .ok (.areturn, 1) := by decide +kernel
theorem dX0_ruleNamed_0 : decode cX0_ruleNamed 0 = .ok (.iconst 0, 1) := by decide +kernel
theorem dX0_ruleNamed_1 : decode cX0_ruleNamed 1 = .ok (.istore_n 3, 1) := by decide +kernel
theorem dX0_ruleNamed_2 : decode cX0_ruleNamed 2 = .ok (.iload_n 3, 1) := by decide +kernel
theorem dX0_ruleNamed_3 : decode cX0_ruleNamed 3 = .ok (.aload_n 0, 1) := by decide +kernel
theorem dX0_ruleNamed_4 : decode cX0_ruleNamed 4 = .ok (.getfield 25, 3) := by decide +kernel
theorem dX0_ruleNamed_7 : decode cX0_ruleNamed 7 = .ok (.if_icmp .ge 24, 3) := by decide +kernel
theorem dX0_ruleNamed_10 : decode cX0_ruleNamed 10 = .ok (.aload_n 0, 1) := by decide +kernel
theorem dX0_ruleNamed_11 : decode cX0_ruleNamed 11 = .ok (.iload_n 3, 1) := by decide +kernel
theorem dX0_ruleNamed_12 : decode cX0_ruleNamed 12 = .ok (.invokevirtual 50, 3) := by decide +kernel
theorem dX0_ruleNamed_15 : decode cX0_ruleNamed 15 = .ok (.getfield 54, 3) := by decide +kernel
theorem dX0_ruleNamed_18 : decode cX0_ruleNamed 18 = .ok (.lload_n 1, 1) := by decide +kernel
theorem dX0_ruleNamed_19 : decode cX0_ruleNamed 19 = .ok (.lcmp, 1) := by decide +kernel
theorem dX0_ruleNamed_20 : decode cX0_ruleNamed 20 = .ok (.ifCond .ne 5, 3) := by decide +kernel
theorem dX0_ruleNamed_23 : decode cX0_ruleNamed 23 = .ok (.iload_n 3, 1) := by decide +kernel
theorem dX0_ruleNamed_24 : decode cX0_ruleNamed 24 = .ok (.ireturn, 1) := by decide +kernel
theorem dX0_ruleNamed_25 : decode cX0_ruleNamed 25 = .ok (.iinc 3 1, 3) := by decide +kernel
theorem dX0_ruleNamed_28 : decode cX0_ruleNamed 28 = .ok (.goto (-26), 3) := by decide +kernel
theorem dX0_ruleNamed_31 : decode cX0_ruleNamed 31 = .ok (.iconst (-1), 1) := by decide +kernel
theorem dX0_ruleNamed_32 : decode cX0_ruleNamed 32 = .ok (.ireturn, 1) := by decide +kernel
theorem dX0_addRule_0 : decode cX0_addRule 0 = .ok (.aload_n 0, 1) := by decide +kernel
theorem dX0_addRule_1 : decode cX0_addRule 1 = .ok (.aload_n 0, 1) := by decide +kernel
theorem dX0_addRule_2 : decode cX0_addRule 2 = .ok (.getfield 25, 3) := by decide +kernel
theorem dX0_addRule_5 : decode cX0_addRule 5 = .ok (.invokevirtual 50, 3) := by decide +kernel
theorem dX0_addRule_8 : decode cX0_addRule 8 = .ok (.astore 6, 2) := by decide +kernel
theorem dX0_addRule_10 : decode cX0_addRule 10 = .ok (.aload 6, 2) := by decide +kernel
theorem dX0_addRule_12 : decode cX0_addRule 12 = .ok (.lload_n 1, 1) := by decide +kernel
theorem dX0_addRule_13 : decode cX0_addRule 13 = .ok (.putfield 54, 3) := by decide +kernel
theorem dX0_addRule_16 : decode cX0_addRule 16 = .ok (.aload 6, 2) := by decide +kernel
theorem dX0_addRule_18 : decode cX0_addRule 18 = .ok (.iload_n 3, 1) := by decide +kernel
theorem dX0_addRule_19 : decode cX0_addRule 19 = .ok (.putfield 58, 3) := by decide +kernel
theorem dX0_addRule_22 : decode cX0_addRule 22 = .ok (.aload 6, 2) := by decide +kernel
theorem dX0_addRule_24 : decode cX0_addRule 24 = .ok (.lload 4, 2) := by decide +kernel
theorem dX0_addRule_26 : decode cX0_addRule 26 = .ok (.putfield 61, 3) := by decide +kernel
theorem dX0_addRule_29 : decode cX0_addRule 29 = .ok (.aload_n 0, 1) := by decide +kernel
theorem dX0_addRule_30 : decode cX0_addRule 30 = .ok (.dup, 1) := by decide +kernel
theorem dX0_addRule_31 : decode cX0_addRule 31 = .ok (.getfield 25, 3) := by decide +kernel
theorem dX0_addRule_34 : decode cX0_addRule 34 = .ok (.iconst 1, 1) := by decide +kernel
theorem dX0_addRule_35 : decode cX0_addRule 35 = .ok (.iadd, 1) := by decide +kernel
theorem dX0_addRule_36 : decode cX0_addRule 36 = .ok (.putfield 25, 3) := by decide +kernel
theorem dX0_addRule_39 : decode cX0_addRule 39 = .ok (.return_, 1) := by decide +kernel
theorem dX0_fillValues_0 : decode cX0_fillValues 0 = .ok (.iconst 0, 1) := by decide +kernel
theorem dX0_fillValues_1 : decode cX0_fillValues 1 = .ok (.istore_n 1, 1) := by decide +kernel
theorem dX0_fillValues_2 : decode cX0_fillValues 2 = .ok (.iload_n 1, 1) := by decide +kernel
theorem dX0_fillValues_3 : decode cX0_fillValues 3 = .ok (.aload_n 0, 1) := by decide +kernel
theorem dX0_fillValues_4 : decode cX0_fillValues 4 = .ok (.getfield 25, 3) := by decide +kernel
theorem dX0_fillValues_7 : decode cX0_fillValues 7 = .ok (.if_icmp .ge 17, 3) := by decide +kernel
theorem dX0_fillValues_10 : decode cX0_fillValues 10 = .ok (.aload_n 0, 1) := by decide +kernel
theorem dX0_fillValues_11 : decode cX0_fillValues 11 = .ok (.iload_n 1, 1) := by decide +kernel
theorem dX0_fillValues_12 : decode cX0_fillValues 12 = .ok (.invokevirtual 50, 3) := by decide +kernel
theorem dX0_fillValues_15 : decode cX0_fillValues 15 = .ok (.invokevirtual 64, 3) := by decide +kernel
theorem dX0_fillValues_18 : decode cX0_fillValues 18 = .ok (.iinc 1 1, 3) := by decide +kernel
theorem dX0_fillValues_21 : decode cX0_fillValues 21 = .ok (.goto (-19), 3) := by decide +kernel
theorem dX0_fillValues_24 : decode cX0_fillValues 24 = .ok (.return_, 1) := by decide +kernel
theorem dX1_init_0 : decode cX1_init 0 = .ok (.aload_n 0, 1) := by decide +kernel
theorem dX1_init_1 : decode cX1_init 1 = .ok (.invokespecial 3, 3) := by decide +kernel
theorem dX1_init_4 : decode cX1_init 4 = .ok (.aload_n 0, 1) := by decide +kernel
theorem dX1_init_5 : decode cX1_init 5 = .ok (.bipush 10, 2) := by decide +kernel
theorem dX1_init_7 : decode cX1_init 7 = .ok (.anewarray 9, 3) := by decide +kernel
theorem dX1_init_10 : decode cX1_init 10 = .ok (.putfield 11, 3) := by decide +kernel
theorem dX1_init_13 : decode cX1_init 13 = .ok (.aload_n 0, 1) := by decide +kernel
theorem dX1_init_14 : decode cX1_init 14 = .ok (.iconst 0, 1) := by decide +kernel
theorem dX1_init_15 : decode cX1_init 15 = .ok (.putfield 17, 3) := by decide +kernel
theorem dX1_init_18 : decode cX1_init 18 = .ok (.aload_n 0, 1) := by decide +kernel
theorem dX1_init_19 : decode cX1_init 19 = .ok (.iconst 0, 1) := by decide +kernel
theorem dX1_init_20 : decode cX1_init 20 = .ok (.putfield 21, 3) := by decide +kernel
theorem dX1_init_23 : decode cX1_init 23 = .ok (.iconst 0, 1) := by decide +kernel
theorem dX1_init_24 : decode cX1_init 24 = .ok (.istore_n 1, 1) := by decide +kernel
theorem dX1_init_25 : decode cX1_init 25 = .ok (.iload_n 1, 1) := by decide +kernel
theorem dX1_init_26 : decode cX1_init 26 = .ok (.bipush 10, 2) := by decide +kernel
theorem dX1_init_28 : decode cX1_init 28 = .ok (.if_icmp .ge 22, 3) := by decide +kernel
theorem dX1_init_31 : decode cX1_init 31 = .ok (.aload_n 0, 1) := by decide +kernel
theorem dX1_init_32 : decode cX1_init 32 = .ok (.getfield 11, 3) := by decide +kernel
theorem dX1_init_35 : decode cX1_init 35 = .ok (.iload_n 1, 1) := by decide +kernel
theorem dX1_init_36 : decode cX1_init 36 = .ok (.new 9, 3) := by decide +kernel
theorem dX1_init_39 : decode cX1_init 39 = .ok (.dup, 1) := by decide +kernel
theorem dX1_init_40 : decode cX1_init 40 = .ok (.invokespecial 24, 3) := by decide +kernel
theorem dX1_init_43 : decode cX1_init 43 = .ok (.aastore, 1) := by decide +kernel
theorem dX1_init_44 : decode cX1_init 44 = .ok (.iinc 1 1, 3) := by decide +kernel
theorem dX1_init_47 : decode cX1_init 47 = .ok (.goto (-22), 3) := by decide +kernel
theorem dX1_init_50 : decode cX1_init 50 = .ok (.return_, 1) := by decide +kernel
theorem dX1_clear_0 : decode cX1_clear 0 = .ok (.aload_n 0, 1) := by decide +kernel
theorem dX1_clear_1 : decode cX1_clear 1 = .ok (.iconst 0, 1) := by decide +kernel
theorem dX1_clear_2 : decode cX1_clear 2 = .ok (.putfield 21, 3) := by decide +kernel
theorem dX1_clear_5 : decode cX1_clear 5 = .ok (.return_, 1) := by decide +kernel
theorem dX1_remember_0 : decode cX1_remember 0 = .ok (.aload_n 0, 1) := by decide +kernel
theorem dX1_remember_1 : decode cX1_remember 1 = .ok (.aload_n 0, 1) := by decide +kernel
theorem dX1_remember_2 : decode cX1_remember 2 = .ok (.getfield 17, 3) := by decide +kernel
theorem dX1_remember_5 : decode cX1_remember 5 = .ok (.invokevirtual 25, 3) := by decide +kernel
theorem dX1_remember_8 : decode cX1_remember 8 = .ok (.aload_n 1, 1) := by decide +kernel
theorem dX1_remember_9 : decode cX1_remember 9 = .ok (.invokevirtual 29, 3) := by decide +kernel
theorem dX1_remember_12 : decode cX1_remember 12 = .ok (.aload_n 0, 1) := by decide +kernel
theorem dX1_remember_13 : decode cX1_remember 13 = .ok (.aload_n 0, 1) := by decide +kernel
theorem dX1_remember_14 : decode cX1_remember 14 = .ok (.getfield 17, 3) := by decide +kernel
theorem dX1_remember_17 : decode cX1_remember 17 = .ok (.iconst 1, 1) := by decide +kernel
theorem dX1_remember_18 : decode cX1_remember 18 = .ok (.iadd, 1) := by decide +kernel
theorem dX1_remember_19 : decode cX1_remember 19 = .ok (.bipush 10, 2) := by decide +kernel
theorem dX1_remember_21 : decode cX1_remember 21 = .ok (.irem, 1) := by decide +kernel
theorem dX1_remember_22 : decode cX1_remember 22 = .ok (.putfield 17, 3) := by decide +kernel
theorem dX1_remember_25 : decode cX1_remember 25 = .ok (.aload_n 0, 1) := by decide +kernel
theorem dX1_remember_26 : decode cX1_remember 26 = .ok (.aload_n 0, 1) := by decide +kernel
theorem dX1_remember_27 : decode cX1_remember 27 = .ok (.getfield 21, 3) := by decide +kernel
theorem dX1_remember_30 : decode cX1_remember 30 = .ok (.iconst 1, 1) := by decide +kernel
theorem dX1_remember_31 : decode cX1_remember 31 = .ok (.iadd, 1) := by decide +kernel
theorem dX1_remember_32 : decode cX1_remember 32 = .ok (.bipush 10, 2) := by decide +kernel
theorem dX1_remember_34 : decode cX1_remember 34 = .ok (.invokestatic 33, 3) := by decide +kernel
theorem dX1_remember_37 : decode cX1_remember 37 = .ok (.putfield 21, 3) := by decide +kernel
theorem dX1_remember_40 : decode cX1_remember 40 = .ok (.return_, 1) := by decide +kernel
theorem dX1_stateAt_0 : decode cX1_stateAt 0 = .ok (.aload_n 0, 1) := by decide +kernel
theorem dX1_stateAt_1 : decode cX1_stateAt 1 = .ok (.getfield 11, 3) := by decide +kernel
theorem dX1_stateAt_4 : decode cX1_stateAt 4 = .ok (.iconst 0, 1) := by decide +kernel
theorem dX1_stateAt_5 : decode cX1_stateAt 5 = .ok (.iload_n 1, 1) := by decide +kernel
theorem dX1_stateAt_6 : decode cX1_stateAt 6 = .ok (.bipush 9, 2) := by decide +kernel
theorem dX1_stateAt_8 : decode cX1_stateAt 8 = .ok (.invokestatic 33, 3) := by decide +kernel
theorem dX1_stateAt_11 : decode cX1_stateAt 11 = .ok (.invokestatic 39, 3) := by decide +kernel
theorem dX1_stateAt_14 : decode cX1_stateAt 14 = .ok (.aaload, 1) := by decide +kernel
theorem dX1_stateAt_15 : decode cX1_stateAt 15 = .ok (.areturn, 1) := by decide +kernel
theorem dX2_init_0 : decode cX2_init 0 = .ok (.aload_n 0, 1) := by decide +kernel
theorem dX2_init_1 : decode cX2_init 1 = .ok (.invokespecial 3, 3) := by decide +kernel
theorem dX2_init_4 : decode cX2_init 4 = .ok (.aload_n 0, 1) := by decide +kernel
theorem dX2_init_5 : decode cX2_init 5 = .ok (.sipush 301, 3) := by decide +kernel
theorem dX2_init_8 : decode cX2_init 8 = .ok (.newarray .int, 2) := by decide +kernel
theorem dX2_init_10 : decode cX2_init 10 = .ok (.putfield 9, 3) := by decide +kernel
theorem dX2_init_13 : decode cX2_init 13 = .ok (.aload_n 0, 1) := by decide +kernel
theorem dX2_init_14 : decode cX2_init 14 = .ok (.sipush 301, 3) := by decide +kernel
theorem dX2_init_17 : decode cX2_init 17 = .ok (.newarray .int, 2) := by decide +kernel
theorem dX2_init_19 : decode cX2_init 19 = .ok (.putfield 15, 3) := by decide +kernel
theorem dX2_init_22 : decode cX2_init 22 = .ok (.return_, 1) := by decide +kernel
theorem dX2_allows_0 : decode cX2_allows 0 = .ok (.iload_n 2, 1) := by decide +kernel
theorem dX2_allows_1 : decode cX2_allows 1 = .ok (.iconst 1, 1) := by decide +kernel
theorem dX2_allows_2 : decode cX2_allows 2 = .ok (.if_icmp .lt 8, 3) := by decide +kernel
theorem dX2_allows_5 : decode cX2_allows 5 = .ok (.iload_n 2, 1) := by decide +kernel
theorem dX2_allows_6 : decode cX2_allows 6 = .ok (.iload_n 1, 1) := by decide +kernel
theorem dX2_allows_7 : decode cX2_allows 7 = .ok (.if_icmp .le 5, 3) := by decide +kernel
theorem dX2_allows_10 : decode cX2_allows 10 = .ok (.iconst 0, 1) := by decide +kernel
theorem dX2_allows_11 : decode cX2_allows 11 = .ok (.ireturn, 1) := by decide +kernel
theorem dX2_allows_12 : decode cX2_allows 12 = .ok (.aload_n 0, 1) := by decide +kernel
theorem dX2_allows_13 : decode cX2_allows 13 = .ok (.getfield 18, 3) := by decide +kernel
theorem dX2_allows_16 : decode cX2_allows 16 = .ok (.tableswitch 101 0 3 #[32, 57, 74, 87], 32) := by decide +kernel
theorem dX2_allows_48 : decode cX2_allows 48 = .ok (.iload_n 2, 1) := by decide +kernel
theorem dX2_allows_49 : decode cX2_allows 49 = .ok (.bipush 60, 2) := by decide +kernel
theorem dX2_allows_51 : decode cX2_allows 51 = .ok (.if_icmp .gt 20, 3) := by decide +kernel
theorem dX2_allows_54 : decode cX2_allows 54 = .ok (.aload_n 0, 1) := by decide +kernel
theorem dX2_allows_55 : decode cX2_allows 55 = .ok (.getfield 22, 3) := by decide +kernel
theorem dX2_allows_58 : decode cX2_allows 58 = .ok (.iload_n 2, 1) := by decide +kernel
theorem dX2_allows_59 : decode cX2_allows 59 = .ok (.lshr, 1) := by decide +kernel
theorem dX2_allows_60 : decode cX2_allows 60 = .ok (.lconst 1, 1) := by decide +kernel
theorem dX2_allows_61 : decode cX2_allows 61 = .ok (.land, 1) := by decide +kernel
theorem dX2_allows_62 : decode cX2_allows 62 = .ok (.lconst 0, 1) := by decide +kernel
theorem dX2_allows_63 : decode cX2_allows 63 = .ok (.lcmp, 1) := by decide +kernel
theorem dX2_allows_64 : decode cX2_allows 64 = .ok (.ifCond .eq 7, 3) := by decide +kernel
theorem dX2_allows_67 : decode cX2_allows 67 = .ok (.iconst 1, 1) := by decide +kernel
theorem dX2_allows_68 : decode cX2_allows 68 = .ok (.goto 4, 3) := by decide +kernel
theorem dX2_allows_71 : decode cX2_allows 71 = .ok (.iconst 0, 1) := by decide +kernel
theorem dX2_allows_72 : decode cX2_allows 72 = .ok (.ireturn, 1) := by decide +kernel
theorem dX2_allows_73 : decode cX2_allows 73 = .ok (.iload_n 2, 1) := by decide +kernel
theorem dX2_allows_74 : decode cX2_allows 74 = .ok (.iload_n 1, 1) := by decide +kernel
theorem dX2_allows_75 : decode cX2_allows 75 = .ok (.if_icmp .ge 13, 3) := by decide +kernel
theorem dX2_allows_78 : decode cX2_allows 78 = .ok (.iload_n 1, 1) := by decide +kernel
theorem dX2_allows_79 : decode cX2_allows 79 = .ok (.iload_n 2, 1) := by decide +kernel
theorem dX2_allows_80 : decode cX2_allows 80 = .ok (.irem, 1) := by decide +kernel
theorem dX2_allows_81 : decode cX2_allows 81 = .ok (.ifCond .ne 7, 3) := by decide +kernel
theorem dX2_allows_84 : decode cX2_allows 84 = .ok (.iconst 1, 1) := by decide +kernel
theorem dX2_allows_85 : decode cX2_allows 85 = .ok (.goto 4, 3) := by decide +kernel
theorem dX2_allows_88 : decode cX2_allows 88 = .ok (.iconst 0, 1) := by decide +kernel
theorem dX2_allows_89 : decode cX2_allows 89 = .ok (.ireturn, 1) := by decide +kernel
theorem dX2_allows_90 : decode cX2_allows 90 = .ok (.iload_n 2, 1) := by decide +kernel
theorem dX2_allows_91 : decode cX2_allows 91 = .ok (.iload_n 1, 1) := by decide +kernel
theorem dX2_allows_92 : decode cX2_allows 92 = .ok (.iconst 2, 1) := by decide +kernel
theorem dX2_allows_93 : decode cX2_allows 93 = .ok (.idiv, 1) := by decide +kernel
theorem dX2_allows_94 : decode cX2_allows 94 = .ok (.if_icmp .gt 7, 3) := by decide +kernel
theorem dX2_allows_97 : decode cX2_allows 97 = .ok (.iconst 1, 1) := by decide +kernel
theorem dX2_allows_98 : decode cX2_allows 98 = .ok (.goto 4, 3) := by decide +kernel
theorem dX2_allows_101 : decode cX2_allows 101 = .ok (.iconst 0, 1) := by decide +kernel
theorem dX2_allows_102 : decode cX2_allows 102 = .ok (.ireturn, 1) := by decide +kernel
theorem dX2_allows_103 : decode cX2_allows 103 = .ok (.iload_n 2, 1) := by decide +kernel
theorem dX2_allows_104 : decode cX2_allows 104 = .ok (.iload_n 2, 1) := by decide +kernel
theorem dX2_allows_105 : decode cX2_allows 105 = .ok (.iconst 1, 1) := by decide +kernel
theorem dX2_allows_106 : decode cX2_allows 106 = .ok (.isub, 1) := by decide +kernel
theorem dX2_allows_107 : decode cX2_allows 107 = .ok (.iand, 1) := by decide +kernel
theorem dX2_allows_108 : decode cX2_allows 108 = .ok (.ifCond .ne 7, 3) := by decide +kernel
theorem dX2_allows_111 : decode cX2_allows 111 = .ok (.iconst 1, 1) := by decide +kernel
theorem dX2_allows_112 : decode cX2_allows 112 = .ok (.goto 4, 3) := by decide +kernel
theorem dX2_allows_115 : decode cX2_allows 115 = .ok (.iconst 0, 1) := by decide +kernel
theorem dX2_allows_116 : decode cX2_allows 116 = .ok (.ireturn, 1) := by decide +kernel
theorem dX2_allows_117 : decode cX2_allows 117 = .ok (.iload_n 2, 1) := by decide +kernel
theorem dX2_allows_118 : decode cX2_allows 118 = .ok (.invokestatic 26, 3) := by decide +kernel
theorem dX2_allows_121 : decode cX2_allows 121 = .ok (.ireturn, 1) := by decide +kernel
theorem dX2_isSquare_0 : decode cX2_isSquare 0 = .ok (.iconst 1, 1) := by decide +kernel
theorem dX2_isSquare_1 : decode cX2_isSquare 1 = .ok (.istore_n 1, 1) := by decide +kernel
theorem dX2_isSquare_2 : decode cX2_isSquare 2 = .ok (.iload_n 1, 1) := by decide +kernel
theorem dX2_isSquare_3 : decode cX2_isSquare 3 = .ok (.sipush 300, 3) := by decide +kernel
theorem dX2_isSquare_6 : decode cX2_isSquare 6 = .ok (.if_icmp .gt 25, 3) := by decide +kernel
theorem dX2_isSquare_9 : decode cX2_isSquare 9 = .ok (.iload_n 1, 1) := by decide +kernel
theorem dX2_isSquare_10 : decode cX2_isSquare 10 = .ok (.iload_n 1, 1) := by decide +kernel
theorem dX2_isSquare_11 : decode cX2_isSquare 11 = .ok (.imul, 1) := by decide +kernel
theorem dX2_isSquare_12 : decode cX2_isSquare 12 = .ok (.iload_n 0, 1) := by decide +kernel
theorem dX2_isSquare_13 : decode cX2_isSquare 13 = .ok (.if_icmp .gt 18, 3) := by decide +kernel
theorem dX2_isSquare_16 : decode cX2_isSquare 16 = .ok (.iload_n 1, 1) := by decide +kernel
theorem dX2_isSquare_17 : decode cX2_isSquare 17 = .ok (.iload_n 1, 1) := by decide +kernel
theorem dX2_isSquare_18 : decode cX2_isSquare 18 = .ok (.imul, 1) := by decide +kernel
theorem dX2_isSquare_19 : decode cX2_isSquare 19 = .ok (.iload_n 0, 1) := by decide +kernel
theorem dX2_isSquare_20 : decode cX2_isSquare 20 = .ok (.if_icmp .ne 5, 3) := by decide +kernel
theorem dX2_isSquare_23 : decode cX2_isSquare 23 = .ok (.iconst 1, 1) := by decide +kernel
theorem dX2_isSquare_24 : decode cX2_isSquare 24 = .ok (.ireturn, 1) := by decide +kernel
theorem dX2_isSquare_25 : decode cX2_isSquare 25 = .ok (.iinc 1 1, 3) := by decide +kernel
theorem dX2_isSquare_28 : decode cX2_isSquare 28 = .ok (.goto (-26), 3) := by decide +kernel
theorem dX2_isSquare_31 : decode cX2_isSquare 31 = .ok (.iconst 0, 1) := by decide +kernel
theorem dX2_isSquare_32 : decode cX2_isSquare 32 = .ok (.ireturn, 1) := by decide +kernel
theorem dX2_valueOf_0 : decode cX2_valueOf 0 = .ok (.iload_n 1, 1) := by decide +kernel
theorem dX2_valueOf_1 : decode cX2_valueOf 1 = .ok (.ifCond .lt 19, 3) := by decide +kernel
theorem dX2_valueOf_4 : decode cX2_valueOf 4 = .ok (.iload_n 1, 1) := by decide +kernel
theorem dX2_valueOf_5 : decode cX2_valueOf 5 = .ok (.sipush 300, 3) := by decide +kernel
theorem dX2_valueOf_8 : decode cX2_valueOf 8 = .ok (.if_icmp .gt 12, 3) := by decide +kernel
theorem dX2_valueOf_11 : decode cX2_valueOf 11 = .ok (.aload_n 0, 1) := by decide +kernel
theorem dX2_valueOf_12 : decode cX2_valueOf 12 = .ok (.getfield 9, 3) := by decide +kernel
theorem dX2_valueOf_15 : decode cX2_valueOf 15 = .ok (.iload_n 1, 1) := by decide +kernel
theorem dX2_valueOf_16 : decode cX2_valueOf 16 = .ok (.iaload, 1) := by decide +kernel
theorem dX2_valueOf_17 : decode cX2_valueOf 17 = .ok (.goto 4, 3) := by decide +kernel
theorem dX2_valueOf_20 : decode cX2_valueOf 20 = .ok (.iconst (-1), 1) := by decide +kernel
theorem dX2_valueOf_21 : decode cX2_valueOf 21 = .ok (.ireturn, 1) := by decide +kernel
theorem dX2_fillValues_0 : decode cX2_fillValues 0 = .ok (.aload_n 0, 1) := by decide +kernel
theorem dX2_fillValues_1 : decode cX2_fillValues 1 = .ok (.getfield 15, 3) := by decide +kernel
theorem dX2_fillValues_4 : decode cX2_fillValues 4 = .ok (.iconst (-1), 1) := by decide +kernel
theorem dX2_fillValues_5 : decode cX2_fillValues 5 = .ok (.invokestatic 34, 3) := by decide +kernel
theorem dX2_fillValues_8 : decode cX2_fillValues 8 = .ok (.iconst 0, 1) := by decide +kernel
theorem dX2_fillValues_9 : decode cX2_fillValues 9 = .ok (.istore_n 1, 1) := by decide +kernel
theorem dX2_fillValues_10 : decode cX2_fillValues 10 = .ok (.iload_n 1, 1) := by decide +kernel
theorem dX2_fillValues_11 : decode cX2_fillValues 11 = .ok (.sipush 300, 3) := by decide +kernel
theorem dX2_fillValues_14 : decode cX2_fillValues 14 = .ok (.if_icmp .gt 54, 3) := by decide +kernel
theorem dX2_fillValues_17 : decode cX2_fillValues 17 = .ok (.iconst 1, 1) := by decide +kernel
theorem dX2_fillValues_18 : decode cX2_fillValues 18 = .ok (.istore_n 2, 1) := by decide +kernel
theorem dX2_fillValues_19 : decode cX2_fillValues 19 = .ok (.iload_n 2, 1) := by decide +kernel
theorem dX2_fillValues_20 : decode cX2_fillValues 20 = .ok (.iload_n 1, 1) := by decide +kernel
theorem dX2_fillValues_21 : decode cX2_fillValues 21 = .ok (.if_icmp .gt 30, 3) := by decide +kernel
theorem dX2_fillValues_24 : decode cX2_fillValues 24 = .ok (.aload_n 0, 1) := by decide +kernel
theorem dX2_fillValues_25 : decode cX2_fillValues 25 = .ok (.iload_n 1, 1) := by decide +kernel
theorem dX2_fillValues_26 : decode cX2_fillValues 26 = .ok (.iload_n 2, 1) := by decide +kernel
theorem dX2_fillValues_27 : decode cX2_fillValues 27 = .ok (.invokevirtual 30, 3) := by decide +kernel
theorem dX2_fillValues_30 : decode cX2_fillValues 30 = .ok (.ifCond .eq 15, 3) := by decide +kernel
theorem dX2_fillValues_33 : decode cX2_fillValues 33 = .ok (.aload_n 0, 1) := by decide +kernel
theorem dX2_fillValues_34 : decode cX2_fillValues 34 = .ok (.aload_n 0, 1) := by decide +kernel
theorem dX2_fillValues_35 : decode cX2_fillValues 35 = .ok (.iload_n 1, 1) := by decide +kernel
theorem dX2_fillValues_36 : decode cX2_fillValues 36 = .ok (.iload_n 2, 1) := by decide +kernel
theorem dX2_fillValues_37 : decode cX2_fillValues 37 = .ok (.isub, 1) := by decide +kernel
theorem dX2_fillValues_38 : decode cX2_fillValues 38 = .ok (.invokevirtual 40, 3) := by decide +kernel
theorem dX2_fillValues_41 : decode cX2_fillValues 41 = .ok (.iload_n 1, 1) := by decide +kernel
theorem dX2_fillValues_42 : decode cX2_fillValues 42 = .ok (.invokevirtual 44, 3) := by decide +kernel
theorem dX2_fillValues_45 : decode cX2_fillValues 45 = .ok (.iinc 2 1, 3) := by decide +kernel
theorem dX2_fillValues_48 : decode cX2_fillValues 48 = .ok (.goto (-29), 3) := by decide +kernel
theorem dX2_fillValues_51 : decode cX2_fillValues 51 = .ok (.aload_n 0, 1) := by decide +kernel
theorem dX2_fillValues_52 : decode cX2_fillValues 52 = .ok (.getfield 9, 3) := by decide +kernel
theorem dX2_fillValues_55 : decode cX2_fillValues 55 = .ok (.iload_n 1, 1) := by decide +kernel
theorem dX2_fillValues_56 : decode cX2_fillValues 56 = .ok (.aload_n 0, 1) := by decide +kernel
theorem dX2_fillValues_57 : decode cX2_fillValues 57 = .ok (.iload_n 1, 1) := by decide +kernel
theorem dX2_fillValues_58 : decode cX2_fillValues 58 = .ok (.invokevirtual 48, 3) := by decide +kernel
theorem dX2_fillValues_61 : decode cX2_fillValues 61 = .ok (.iastore, 1) := by decide +kernel
theorem dX2_fillValues_62 : decode cX2_fillValues 62 = .ok (.iinc 1 1, 3) := by decide +kernel
theorem dX2_fillValues_65 : decode cX2_fillValues 65 = .ok (.goto (-55), 3) := by decide +kernel
theorem dX2_fillValues_68 : decode cX2_fillValues 68 = .ok (.return_, 1) := by decide +kernel
theorem dX2_noteValue_0 : decode cX2_noteValue 0 = .ok (.iload_n 1, 1) := by decide +kernel
theorem dX2_noteValue_1 : decode cX2_noteValue 1 = .ok (.ifCond .lt 19, 3) := by decide +kernel
theorem dX2_noteValue_4 : decode cX2_noteValue 4 = .ok (.iload_n 1, 1) := by decide +kernel
theorem dX2_noteValue_5 : decode cX2_noteValue 5 = .ok (.aload_n 0, 1) := by decide +kernel
theorem dX2_noteValue_6 : decode cX2_noteValue 6 = .ok (.getfield 15, 3) := by decide +kernel
theorem dX2_noteValue_9 : decode cX2_noteValue 9 = .ok (.arraylength, 1) := by decide +kernel
theorem dX2_noteValue_10 : decode cX2_noteValue 10 = .ok (.if_icmp .ge 10, 3) := by decide +kernel
theorem dX2_noteValue_13 : decode cX2_noteValue 13 = .ok (.aload_n 0, 1) := by decide +kernel
theorem dX2_noteValue_14 : decode cX2_noteValue 14 = .ok (.getfield 15, 3) := by decide +kernel
theorem dX2_noteValue_17 : decode cX2_noteValue 17 = .ok (.iload_n 1, 1) := by decide +kernel
theorem dX2_noteValue_18 : decode cX2_noteValue 18 = .ok (.iload_n 2, 1) := by decide +kernel
theorem dX2_noteValue_19 : decode cX2_noteValue 19 = .ok (.iastore, 1) := by decide +kernel
theorem dX2_noteValue_20 : decode cX2_noteValue 20 = .ok (.return_, 1) := by decide +kernel
theorem dX2_leastWithout_0 : decode cX2_leastWithout 0 = .ok (.iconst 0, 1) := by decide +kernel
theorem dX2_leastWithout_1 : decode cX2_leastWithout 1 = .ok (.istore_n 2, 1) := by decide +kernel
theorem dX2_leastWithout_2 : decode cX2_leastWithout 2 = .ok (.iload_n 2, 1) := by decide +kernel
theorem dX2_leastWithout_3 : decode cX2_leastWithout 3 = .ok (.aload_n 0, 1) := by decide +kernel
theorem dX2_leastWithout_4 : decode cX2_leastWithout 4 = .ok (.getfield 15, 3) := by decide +kernel
theorem dX2_leastWithout_7 : decode cX2_leastWithout 7 = .ok (.arraylength, 1) := by decide +kernel
theorem dX2_leastWithout_8 : decode cX2_leastWithout 8 = .ok (.if_icmp .ge 19, 3) := by decide +kernel
theorem dX2_leastWithout_11 : decode cX2_leastWithout 11 = .ok (.aload_n 0, 1) := by decide +kernel
theorem dX2_leastWithout_12 : decode cX2_leastWithout 12 = .ok (.getfield 15, 3) := by decide +kernel
theorem dX2_leastWithout_15 : decode cX2_leastWithout 15 = .ok (.iload_n 2, 1) := by decide +kernel
theorem dX2_leastWithout_16 : decode cX2_leastWithout 16 = .ok (.iaload, 1) := by decide +kernel
theorem dX2_leastWithout_17 : decode cX2_leastWithout 17 = .ok (.iload_n 1, 1) := by decide +kernel
theorem dX2_leastWithout_18 : decode cX2_leastWithout 18 = .ok (.if_icmp .ne 9, 3) := by decide +kernel
theorem dX2_leastWithout_21 : decode cX2_leastWithout 21 = .ok (.iinc 2 1, 3) := by decide +kernel
theorem dX2_leastWithout_24 : decode cX2_leastWithout 24 = .ok (.goto (-22), 3) := by decide +kernel
theorem dX2_leastWithout_27 : decode cX2_leastWithout 27 = .ok (.iload_n 2, 1) := by decide +kernel
theorem dX2_leastWithout_28 : decode cX2_leastWithout 28 = .ok (.ireturn, 1) := by decide +kernel
theorem dX3_init_0 : decode cX3_init 0 = .ok (.aload_n 0, 1) := by decide +kernel
theorem dX3_init_1 : decode cX3_init 1 = .ok (.invokespecial 3, 3) := by decide +kernel
theorem dX3_init_4 : decode cX3_init 4 = .ok (.aload_n 0, 1) := by decide +kernel
theorem dX3_init_5 : decode cX3_init 5 = .ok (.ldc 9, 2) := by decide +kernel
theorem dX3_init_7 : decode cX3_init 7 = .ok (.newarray .int, 2) := by decide +kernel
theorem dX3_init_9 : decode cX3_init 9 = .ok (.putfield 10, 3) := by decide +kernel
theorem dX3_init_12 : decode cX3_init 12 = .ok (.aload_n 0, 1) := by decide +kernel
theorem dX3_init_13 : decode cX3_init 13 = .ok (.bipush 64, 2) := by decide +kernel
theorem dX3_init_15 : decode cX3_init 15 = .ok (.newarray .int, 2) := by decide +kernel
theorem dX3_init_17 : decode cX3_init 17 = .ok (.putfield 16, 3) := by decide +kernel
theorem dX3_init_20 : decode cX3_init 20 = .ok (.aload_n 0, 1) := by decide +kernel
theorem dX3_init_21 : decode cX3_init 21 = .ok (.bipush 81, 2) := by decide +kernel
theorem dX3_init_23 : decode cX3_init 23 = .ok (.newarray .int, 2) := by decide +kernel
theorem dX3_init_25 : decode cX3_init 25 = .ok (.putfield 19, 3) := by decide +kernel
theorem dX3_init_28 : decode cX3_init 28 = .ok (.aload_n 0, 1) := by decide +kernel
theorem dX3_init_29 : decode cX3_init 29 = .ok (.iconst (-1), 1) := by decide +kernel
theorem dX3_init_30 : decode cX3_init 30 = .ok (.putfield 22, 3) := by decide +kernel
theorem dX3_init_33 : decode cX3_init 33 = .ok (.aload_n 0, 1) := by decide +kernel
theorem dX3_init_34 : decode cX3_init 34 = .ok (.iconst 0, 1) := by decide +kernel
theorem dX3_init_35 : decode cX3_init 35 = .ok (.putfield 26, 3) := by decide +kernel
theorem dX3_init_38 : decode cX3_init 38 = .ok (.return_, 1) := by decide +kernel
theorem dX3_forget_0 : decode cX3_forget 0 = .ok (.aload_n 0, 1) := by decide +kernel
theorem dX3_forget_1 : decode cX3_forget 1 = .ok (.iconst (-1), 1) := by decide +kernel
theorem dX3_forget_2 : decode cX3_forget 2 = .ok (.putfield 22, 3) := by decide +kernel
theorem dX3_forget_5 : decode cX3_forget 5 = .ok (.return_, 1) := by decide +kernel
theorem dX3_prepare_0 : decode cX3_prepare 0 = .ok (.aload_n 1, 1) := by decide +kernel
theorem dX3_prepare_1 : decode cX3_prepare 1 = .ok (.getfield 29, 3) := by decide +kernel
theorem dX3_prepare_4 : decode cX3_prepare 4 = .ok (.astore_n 2, 1) := by decide +kernel
theorem dX3_prepare_5 : decode cX3_prepare 5 = .ok (.aload_n 2, 1) := by decide +kernel
theorem dX3_prepare_6 : decode cX3_prepare 6 = .ok (.getfield 35, 3) := by decide +kernel
theorem dX3_prepare_9 : decode cX3_prepare 9 = .ok (.aload_n 2, 1) := by decide +kernel
theorem dX3_prepare_10 : decode cX3_prepare 10 = .ok (.getfield 40, 3) := by decide +kernel
theorem dX3_prepare_13 : decode cX3_prepare 13 = .ok (.bipush 16, 2) := by decide +kernel
theorem dX3_prepare_15 : decode cX3_prepare 15 = .ok (.ishl, 1) := by decide +kernel
theorem dX3_prepare_16 : decode cX3_prepare 16 = .ok (.ior, 1) := by decide +kernel
theorem dX3_prepare_17 : decode cX3_prepare 17 = .ok (.aload_n 2, 1) := by decide +kernel
theorem dX3_prepare_18 : decode cX3_prepare 18 = .ok (.getfield 43, 3) := by decide +kernel
theorem dX3_prepare_21 : decode cX3_prepare 21 = .ok (.ifCond .eq 8, 3) := by decide +kernel
theorem dX3_prepare_24 : decode cX3_prepare 24 = .ok (.ldc 47, 2) := by decide +kernel
theorem dX3_prepare_26 : decode cX3_prepare 26 = .ok (.goto 4, 3) := by decide +kernel
theorem dX3_prepare_29 : decode cX3_prepare 29 = .ok (.iconst 0, 1) := by decide +kernel
theorem dX3_prepare_30 : decode cX3_prepare 30 = .ok (.ior, 1) := by decide +kernel
theorem dX3_prepare_31 : decode cX3_prepare 31 = .ok (.istore_n 3, 1) := by decide +kernel
theorem dX3_prepare_32 : decode cX3_prepare 32 = .ok (.iload_n 3, 1) := by decide +kernel
theorem dX3_prepare_33 : decode cX3_prepare 33 = .ok (.aload_n 0, 1) := by decide +kernel
theorem dX3_prepare_34 : decode cX3_prepare 34 = .ok (.getfield 22, 3) := by decide +kernel
theorem dX3_prepare_37 : decode cX3_prepare 37 = .ok (.if_icmp .ne 4, 3) := by decide +kernel
theorem dX3_prepare_40 : decode cX3_prepare 40 = .ok (.return_, 1) := by decide +kernel
theorem dX3_prepare_41 : decode cX3_prepare 41 = .ok (.aload_n 0, 1) := by decide +kernel
theorem dX3_prepare_42 : decode cX3_prepare 42 = .ok (.iload_n 3, 1) := by decide +kernel
theorem dX3_prepare_43 : decode cX3_prepare 43 = .ok (.putfield 22, 3) := by decide +kernel
theorem dX3_prepare_46 : decode cX3_prepare 46 = .ok (.aload_n 0, 1) := by decide +kernel
theorem dX3_prepare_47 : decode cX3_prepare 47 = .ok (.dup, 1) := by decide +kernel
theorem dX3_prepare_48 : decode cX3_prepare 48 = .ok (.getfield 26, 3) := by decide +kernel
theorem dX3_prepare_51 : decode cX3_prepare 51 = .ok (.iconst 1, 1) := by decide +kernel
theorem dX3_prepare_52 : decode cX3_prepare 52 = .ok (.iadd, 1) := by decide +kernel
theorem dX3_prepare_53 : decode cX3_prepare 53 = .ok (.putfield 26, 3) := by decide +kernel
theorem dX3_prepare_56 : decode cX3_prepare 56 = .ok (.aload_n 0, 1) := by decide +kernel
theorem dX3_prepare_57 : decode cX3_prepare 57 = .ok (.aload_n 2, 1) := by decide +kernel
theorem dX3_prepare_58 : decode cX3_prepare 58 = .ok (.getfield 40, 3) := by decide +kernel
theorem dX3_prepare_61 : decode cX3_prepare 61 = .ok (.putfield 48, 3) := by decide +kernel
theorem dX3_prepare_64 : decode cX3_prepare 64 = .ok (.aload_n 0, 1) := by decide +kernel
theorem dX3_prepare_65 : decode cX3_prepare 65 = .ok (.aload_n 1, 1) := by decide +kernel
theorem dX3_prepare_66 : decode cX3_prepare 66 = .ok (.getfield 49, 3) := by decide +kernel
theorem dX3_prepare_69 : decode cX3_prepare 69 = .ok (.putfield 52, 3) := by decide +kernel
theorem dX3_prepare_72 : decode cX3_prepare 72 = .ok (.aload_n 0, 1) := by decide +kernel
theorem dX3_prepare_73 : decode cX3_prepare 73 = .ok (.aload_n 2, 1) := by decide +kernel
theorem dX3_prepare_74 : decode cX3_prepare 74 = .ok (.getfield 43, 3) := by decide +kernel
theorem dX3_prepare_77 : decode cX3_prepare 77 = .ok (.putfield 53, 3) := by decide +kernel
theorem dX3_prepare_80 : decode cX3_prepare 80 = .ok (.iconst 0, 1) := by decide +kernel
theorem dX3_prepare_81 : decode cX3_prepare 81 = .ok (.istore 4, 2) := by decide +kernel
theorem dX3_prepare_83 : decode cX3_prepare 83 = .ok (.iload 4, 2) := by decide +kernel
theorem dX3_prepare_85 : decode cX3_prepare 85 = .ok (.iconst 4, 1) := by decide +kernel
theorem dX3_prepare_86 : decode cX3_prepare 86 = .ok (.if_icmp .ge 21, 3) := by decide +kernel
theorem dX3_prepare_89 : decode cX3_prepare 89 = .ok (.aload_n 0, 1) := by decide +kernel
theorem dX3_prepare_90 : decode cX3_prepare 90 = .ok (.iload 4, 2) := by decide +kernel
theorem dX3_prepare_92 : decode cX3_prepare 92 = .ok (.aload_n 1, 1) := by decide +kernel
theorem dX3_prepare_93 : decode cX3_prepare 93 = .ok (.iload 4, 2) := by decide +kernel
theorem dX3_prepare_95 : decode cX3_prepare 95 = .ok (.invokevirtual 54, 3) := by decide +kernel
theorem dX3_prepare_98 : decode cX3_prepare 98 = .ok (.invokevirtual 58, 3) := by decide +kernel
theorem dX3_prepare_101 : decode cX3_prepare 101 = .ok (.iinc 4 1, 3) := by decide +kernel
theorem dX3_prepare_104 : decode cX3_prepare 104 = .ok (.goto (-21), 3) := by decide +kernel
theorem dX3_prepare_107 : decode cX3_prepare 107 = .ok (.return_, 1) := by decide +kernel
theorem dX3_fillAllowed_0 : decode cX3_fillAllowed 0 = .ok (.iconst 0, 1) := by decide +kernel
theorem dX3_fillAllowed_1 : decode cX3_fillAllowed 1 = .ok (.istore_n 3, 1) := by decide +kernel
theorem dX3_fillAllowed_2 : decode cX3_fillAllowed 2 = .ok (.iload_n 3, 1) := by decide +kernel
theorem dX3_fillAllowed_3 : decode cX3_fillAllowed 3 = .ok (.bipush 15, 2) := by decide +kernel
theorem dX3_fillAllowed_5 : decode cX3_fillAllowed 5 = .ok (.if_icmp .gt 59, 3) := by decide +kernel
theorem dX3_fillAllowed_8 : decode cX3_fillAllowed 8 = .ok (.iconst 0, 1) := by decide +kernel
theorem dX3_fillAllowed_9 : decode cX3_fillAllowed 9 = .ok (.istore 4, 2) := by decide +kernel
theorem dX3_fillAllowed_11 : decode cX3_fillAllowed 11 = .ok (.iconst 1, 1) := by decide +kernel
theorem dX3_fillAllowed_12 : decode cX3_fillAllowed 12 = .ok (.istore 5, 2) := by decide +kernel
theorem dX3_fillAllowed_14 : decode cX3_fillAllowed 14 = .ok (.iload 5, 2) := by decide +kernel
theorem dX3_fillAllowed_16 : decode cX3_fillAllowed 16 = .ok (.iload_n 3, 1) := by decide +kernel
theorem dX3_fillAllowed_17 : decode cX3_fillAllowed 17 = .ok (.if_icmp .gt 28, 3) := by decide +kernel
theorem dX3_fillAllowed_20 : decode cX3_fillAllowed 20 = .ok (.aload_n 2, 1) := by decide +kernel
theorem dX3_fillAllowed_21 : decode cX3_fillAllowed 21 = .ok (.iload_n 3, 1) := by decide +kernel
theorem dX3_fillAllowed_22 : decode cX3_fillAllowed 22 = .ok (.iload 5, 2) := by decide +kernel
theorem dX3_fillAllowed_24 : decode cX3_fillAllowed 24 = .ok (.invokevirtual 62, 3) := by decide +kernel
theorem dX3_fillAllowed_27 : decode cX3_fillAllowed 27 = .ok (.ifCond .eq 12, 3) := by decide +kernel
theorem dX3_fillAllowed_30 : decode cX3_fillAllowed 30 = .ok (.iload 4, 2) := by decide +kernel
theorem dX3_fillAllowed_32 : decode cX3_fillAllowed 32 = .ok (.iconst 1, 1) := by decide +kernel
theorem dX3_fillAllowed_33 : decode cX3_fillAllowed 33 = .ok (.iload 5, 2) := by decide +kernel
theorem dX3_fillAllowed_35 : decode cX3_fillAllowed 35 = .ok (.ishl, 1) := by decide +kernel
theorem dX3_fillAllowed_36 : decode cX3_fillAllowed 36 = .ok (.ior, 1) := by decide +kernel
theorem dX3_fillAllowed_37 : decode cX3_fillAllowed 37 = .ok (.istore 4, 2) := by decide +kernel
theorem dX3_fillAllowed_39 : decode cX3_fillAllowed 39 = .ok (.iinc 5 1, 3) := by decide +kernel
theorem dX3_fillAllowed_42 : decode cX3_fillAllowed 42 = .ok (.goto (-28), 3) := by decide +kernel
theorem dX3_fillAllowed_45 : decode cX3_fillAllowed 45 = .ok (.aload_n 0, 1) := by decide +kernel
theorem dX3_fillAllowed_46 : decode cX3_fillAllowed 46 = .ok (.getfield 16, 3) := by decide +kernel
theorem dX3_fillAllowed_49 : decode cX3_fillAllowed 49 = .ok (.iload_n 1, 1) := by decide +kernel
theorem dX3_fillAllowed_50 : decode cX3_fillAllowed 50 = .ok (.bipush 16, 2) := by decide +kernel
theorem dX3_fillAllowed_52 : decode cX3_fillAllowed 52 = .ok (.imul, 1) := by decide +kernel
theorem dX3_fillAllowed_53 : decode cX3_fillAllowed 53 = .ok (.iload_n 3, 1) := by decide +kernel
theorem dX3_fillAllowed_54 : decode cX3_fillAllowed 54 = .ok (.iadd, 1) := by decide +kernel
theorem dX3_fillAllowed_55 : decode cX3_fillAllowed 55 = .ok (.iload 4, 2) := by decide +kernel
theorem dX3_fillAllowed_57 : decode cX3_fillAllowed 57 = .ok (.iastore, 1) := by decide +kernel
theorem dX3_fillAllowed_58 : decode cX3_fillAllowed 58 = .ok (.iinc 3 1, 3) := by decide +kernel
theorem dX3_fillAllowed_61 : decode cX3_fillAllowed 61 = .ok (.goto (-59), 3) := by decide +kernel
theorem dX3_fillAllowed_64 : decode cX3_fillAllowed 64 = .ok (.return_, 1) := by decide +kernel
theorem dX3_listNext_0 : decode cX3_listNext 0 = .ok (.aload_n 0, 1) := by decide +kernel
theorem dX3_listNext_1 : decode cX3_listNext 1 = .ok (.iconst 0, 1) := by decide +kernel
theorem dX3_listNext_2 : decode cX3_listNext 2 = .ok (.putfield 68, 3) := by decide +kernel
theorem dX3_listNext_5 : decode cX3_listNext 5 = .ok (.iconst 0, 1) := by decide +kernel
theorem dX3_listNext_6 : decode cX3_listNext 6 = .ok (.istore_n 2, 1) := by decide +kernel
theorem dX3_listNext_7 : decode cX3_listNext 7 = .ok (.iload_n 2, 1) := by decide +kernel
theorem dX3_listNext_8 : decode cX3_listNext 8 = .ok (.aload_n 0, 1) := by decide +kernel
theorem dX3_listNext_9 : decode cX3_listNext 9 = .ok (.getfield 48, 3) := by decide +kernel
theorem dX3_listNext_12 : decode cX3_listNext 12 = .ok (.if_icmp .ge 15, 3) := by decide +kernel
theorem dX3_listNext_15 : decode cX3_listNext 15 = .ok (.aload_n 0, 1) := by decide +kernel
theorem dX3_listNext_16 : decode cX3_listNext 16 = .ok (.iload_n 1, 1) := by decide +kernel
theorem dX3_listNext_17 : decode cX3_listNext 17 = .ok (.iload_n 2, 1) := by decide +kernel
theorem dX3_listNext_18 : decode cX3_listNext 18 = .ok (.invokevirtual 71, 3) := by decide +kernel
theorem dX3_listNext_21 : decode cX3_listNext 21 = .ok (.iinc 2 1, 3) := by decide +kernel
theorem dX3_listNext_24 : decode cX3_listNext 24 = .ok (.goto (-17), 3) := by decide +kernel
theorem dX3_listNext_27 : decode cX3_listNext 27 = .ok (.iconst 0, 1) := by decide +kernel
theorem dX3_listNext_28 : decode cX3_listNext 28 = .ok (.istore_n 2, 1) := by decide +kernel
theorem dX3_listNext_29 : decode cX3_listNext 29 = .ok (.iload_n 2, 1) := by decide +kernel
theorem dX3_listNext_30 : decode cX3_listNext 30 = .ok (.aload_n 0, 1) := by decide +kernel
theorem dX3_listNext_31 : decode cX3_listNext 31 = .ok (.getfield 48, 3) := by decide +kernel
theorem dX3_listNext_34 : decode cX3_listNext 34 = .ok (.if_icmp .ge 34, 3) := by decide +kernel
theorem dX3_listNext_37 : decode cX3_listNext 37 = .ok (.iload_n 2, 1) := by decide +kernel
theorem dX3_listNext_38 : decode cX3_listNext 38 = .ok (.iconst 1, 1) := by decide +kernel
theorem dX3_listNext_39 : decode cX3_listNext 39 = .ok (.iadd, 1) := by decide +kernel
theorem dX3_listNext_40 : decode cX3_listNext 40 = .ok (.istore_n 3, 1) := by decide +kernel
theorem dX3_listNext_41 : decode cX3_listNext 41 = .ok (.iload_n 3, 1) := by decide +kernel
theorem dX3_listNext_42 : decode cX3_listNext 42 = .ok (.aload_n 0, 1) := by decide +kernel
theorem dX3_listNext_43 : decode cX3_listNext 43 = .ok (.getfield 48, 3) := by decide +kernel
theorem dX3_listNext_46 : decode cX3_listNext 46 = .ok (.if_icmp .ge 16, 3) := by decide +kernel
theorem dX3_listNext_49 : decode cX3_listNext 49 = .ok (.aload_n 0, 1) := by decide +kernel
theorem dX3_listNext_50 : decode cX3_listNext 50 = .ok (.iload_n 1, 1) := by decide +kernel
theorem dX3_listNext_51 : decode cX3_listNext 51 = .ok (.iload_n 2, 1) := by decide +kernel
theorem dX3_listNext_52 : decode cX3_listNext 52 = .ok (.iload_n 3, 1) := by decide +kernel
theorem dX3_listNext_53 : decode cX3_listNext 53 = .ok (.invokevirtual 75, 3) := by decide +kernel
theorem dX3_listNext_56 : decode cX3_listNext 56 = .ok (.iinc 3 1, 3) := by decide +kernel
theorem dX3_listNext_59 : decode cX3_listNext 59 = .ok (.goto (-18), 3) := by decide +kernel
theorem dX3_listNext_62 : decode cX3_listNext 62 = .ok (.iinc 2 1, 3) := by decide +kernel
theorem dX3_listNext_65 : decode cX3_listNext 65 = .ok (.goto (-36), 3) := by decide +kernel
theorem dX3_listNext_68 : decode cX3_listNext 68 = .ok (.aload_n 0, 1) := by decide +kernel
theorem dX3_listNext_69 : decode cX3_listNext 69 = .ok (.getfield 68, 3) := by decide +kernel
theorem dX3_listNext_72 : decode cX3_listNext 72 = .ok (.ifCond .le 17, 3) := by decide +kernel
theorem dX3_listNext_75 : decode cX3_listNext 75 = .ok (.iload_n 1, 1) := by decide +kernel
theorem dX3_listNext_76 : decode cX3_listNext 76 = .ok (.ldc 79, 2) := by decide +kernel
theorem dX3_listNext_78 : decode cX3_listNext 78 = .ok (.if_icmp .lt 11, 3) := by decide +kernel
theorem dX3_listNext_81 : decode cX3_listNext 81 = .ok (.aload_n 0, 1) := by decide +kernel
theorem dX3_listNext_82 : decode cX3_listNext 82 = .ok (.iload_n 1, 1) := by decide +kernel
theorem dX3_listNext_83 : decode cX3_listNext 83 = .ok (.ldc 79, 2) := by decide +kernel
theorem dX3_listNext_85 : decode cX3_listNext 85 = .ok (.isub, 1) := by decide +kernel
theorem dX3_listNext_86 : decode cX3_listNext 86 = .ok (.invokevirtual 80, 3) := by decide +kernel
theorem dX3_listNext_89 : decode cX3_listNext 89 = .ok (.aload_n 0, 1) := by decide +kernel
theorem dX3_listNext_90 : decode cX3_listNext 90 = .ok (.getfield 68, 3) := by decide +kernel
theorem dX3_listNext_93 : decode cX3_listNext 93 = .ok (.ireturn, 1) := by decide +kernel
theorem dX3_addTakes_0 : decode cX3_addTakes 0 = .ok (.iload_n 1, 1) := by decide +kernel
theorem dX3_addTakes_1 : decode cX3_addTakes 1 = .ok (.iload_n 2, 1) := by decide +kernel
theorem dX3_addTakes_2 : decode cX3_addTakes 2 = .ok (.invokestatic 84, 3) := by decide +kernel
theorem dX3_addTakes_5 : decode cX3_addTakes 5 = .ok (.istore_n 3, 1) := by decide +kernel
theorem dX3_addTakes_6 : decode cX3_addTakes 6 = .ok (.iload_n 2, 1) := by decide +kernel
theorem dX3_addTakes_7 : decode cX3_addTakes 7 = .ok (.bipush 16, 2) := by decide +kernel
theorem dX3_addTakes_9 : decode cX3_addTakes 9 = .ok (.imul, 1) := by decide +kernel
theorem dX3_addTakes_10 : decode cX3_addTakes 10 = .ok (.iload_n 3, 1) := by decide +kernel
theorem dX3_addTakes_11 : decode cX3_addTakes 11 = .ok (.iadd, 1) := by decide +kernel
theorem dX3_addTakes_12 : decode cX3_addTakes 12 = .ok (.istore 4, 2) := by decide +kernel
theorem dX3_addTakes_14 : decode cX3_addTakes 14 = .ok (.iload 4, 2) := by decide +kernel
theorem dX3_addTakes_16 : decode cX3_addTakes 16 = .ok (.ifCond .lt 23, 3) := by decide +kernel
theorem dX3_addTakes_19 : decode cX3_addTakes 19 = .ok (.iload 4, 2) := by decide +kernel
theorem dX3_addTakes_21 : decode cX3_addTakes 21 = .ok (.aload_n 0, 1) := by decide +kernel
theorem dX3_addTakes_22 : decode cX3_addTakes 22 = .ok (.getfield 16, 3) := by decide +kernel
theorem dX3_addTakes_25 : decode cX3_addTakes 25 = .ok (.arraylength, 1) := by decide +kernel
theorem dX3_addTakes_26 : decode cX3_addTakes 26 = .ok (.if_icmp .ge 13, 3) := by decide +kernel
theorem dX3_addTakes_29 : decode cX3_addTakes 29 = .ok (.aload_n 0, 1) := by decide +kernel
theorem dX3_addTakes_30 : decode cX3_addTakes 30 = .ok (.getfield 16, 3) := by decide +kernel
theorem dX3_addTakes_33 : decode cX3_addTakes 33 = .ok (.iload 4, 2) := by decide +kernel
theorem dX3_addTakes_35 : decode cX3_addTakes 35 = .ok (.iaload, 1) := by decide +kernel
theorem dX3_addTakes_36 : decode cX3_addTakes 36 = .ok (.goto 4, 3) := by decide +kernel
theorem dX3_addTakes_39 : decode cX3_addTakes 39 = .ok (.iconst 0, 1) := by decide +kernel
theorem dX3_addTakes_40 : decode cX3_addTakes 40 = .ok (.istore 5, 2) := by decide +kernel
theorem dX3_addTakes_42 : decode cX3_addTakes 42 = .ok (.iconst 1, 1) := by decide +kernel
theorem dX3_addTakes_43 : decode cX3_addTakes 43 = .ok (.istore 6, 2) := by decide +kernel
theorem dX3_addTakes_45 : decode cX3_addTakes 45 = .ok (.iload 6, 2) := by decide +kernel
theorem dX3_addTakes_47 : decode cX3_addTakes 47 = .ok (.iload_n 3, 1) := by decide +kernel
theorem dX3_addTakes_48 : decode cX3_addTakes 48 = .ok (.if_icmp .gt 31, 3) := by decide +kernel
theorem dX3_addTakes_51 : decode cX3_addTakes 51 = .ok (.iload 5, 2) := by decide +kernel
theorem dX3_addTakes_53 : decode cX3_addTakes 53 = .ok (.iload 6, 2) := by decide +kernel
theorem dX3_addTakes_55 : decode cX3_addTakes 55 = .ok (.ishr, 1) := by decide +kernel
theorem dX3_addTakes_56 : decode cX3_addTakes 56 = .ok (.iconst 1, 1) := by decide +kernel
theorem dX3_addTakes_57 : decode cX3_addTakes 57 = .ok (.iand, 1) := by decide +kernel
theorem dX3_addTakes_58 : decode cX3_addTakes 58 = .ok (.ifCond .eq 15, 3) := by decide +kernel
theorem dX3_addTakes_61 : decode cX3_addTakes 61 = .ok (.aload_n 0, 1) := by decide +kernel
theorem dX3_addTakes_62 : decode cX3_addTakes 62 = .ok (.iload_n 1, 1) := by decide +kernel
theorem dX3_addTakes_63 : decode cX3_addTakes 63 = .ok (.iload 6, 2) := by decide +kernel
theorem dX3_addTakes_65 : decode cX3_addTakes 65 = .ok (.iconst 4, 1) := by decide +kernel
theorem dX3_addTakes_66 : decode cX3_addTakes 66 = .ok (.iload_n 2, 1) := by decide +kernel
theorem dX3_addTakes_67 : decode cX3_addTakes 67 = .ok (.imul, 1) := by decide +kernel
theorem dX3_addTakes_68 : decode cX3_addTakes 68 = .ok (.ishl, 1) := by decide +kernel
theorem dX3_addTakes_69 : decode cX3_addTakes 69 = .ok (.isub, 1) := by decide +kernel
theorem dX3_addTakes_70 : decode cX3_addTakes 70 = .ok (.invokevirtual 80, 3) := by decide +kernel
theorem dX3_addTakes_73 : decode cX3_addTakes 73 = .ok (.iinc 6 1, 3) := by decide +kernel
theorem dX3_addTakes_76 : decode cX3_addTakes 76 = .ok (.goto (-31), 3) := by decide +kernel
theorem dX3_addTakes_79 : decode cX3_addTakes 79 = .ok (.return_, 1) := by decide +kernel
theorem dX3_addShared_0 : decode cX3_addShared 0 = .ok (.aload_n 0, 1) := by decide +kernel
theorem dX3_addShared_1 : decode cX3_addShared 1 = .ok (.getfield 52, 3) := by decide +kernel
theorem dX3_addShared_4 : decode cX3_addShared 4 = .ok (.ifCond .ne 4, 3) := by decide +kernel
theorem dX3_addShared_7 : decode cX3_addShared 7 = .ok (.return_, 1) := by decide +kernel
theorem dX3_addShared_8 : decode cX3_addShared 8 = .ok (.iconst 1, 1) := by decide +kernel
theorem dX3_addShared_9 : decode cX3_addShared 9 = .ok (.iconst 4, 1) := by decide +kernel
theorem dX3_addShared_10 : decode cX3_addShared 10 = .ok (.iload_n 2, 1) := by decide +kernel
theorem dX3_addShared_11 : decode cX3_addShared 11 = .ok (.imul, 1) := by decide +kernel
theorem dX3_addShared_12 : decode cX3_addShared 12 = .ok (.ishl, 1) := by decide +kernel
theorem dX3_addShared_13 : decode cX3_addShared 13 = .ok (.iconst 1, 1) := by decide +kernel
theorem dX3_addShared_14 : decode cX3_addShared 14 = .ok (.iconst 4, 1) := by decide +kernel
theorem dX3_addShared_15 : decode cX3_addShared 15 = .ok (.iload_n 3, 1) := by decide +kernel
theorem dX3_addShared_16 : decode cX3_addShared 16 = .ok (.imul, 1) := by decide +kernel
theorem dX3_addShared_17 : decode cX3_addShared 17 = .ok (.ishl, 1) := by decide +kernel
theorem dX3_addShared_18 : decode cX3_addShared 18 = .ok (.iadd, 1) := by decide +kernel
theorem dX3_addShared_19 : decode cX3_addShared 19 = .ok (.istore 4, 2) := by decide +kernel
theorem dX3_addShared_21 : decode cX3_addShared 21 = .ok (.iload_n 1, 1) := by decide +kernel
theorem dX3_addShared_22 : decode cX3_addShared 22 = .ok (.iload_n 2, 1) := by decide +kernel
theorem dX3_addShared_23 : decode cX3_addShared 23 = .ok (.invokestatic 84, 3) := by decide +kernel
theorem dX3_addShared_26 : decode cX3_addShared 26 = .ok (.iload_n 1, 1) := by decide +kernel
theorem dX3_addShared_27 : decode cX3_addShared 27 = .ok (.iload_n 3, 1) := by decide +kernel
theorem dX3_addShared_28 : decode cX3_addShared 28 = .ok (.invokestatic 84, 3) := by decide +kernel
theorem dX3_addShared_31 : decode cX3_addShared 31 = .ok (.invokestatic 88, 3) := by decide +kernel
theorem dX3_addShared_34 : decode cX3_addShared 34 = .ok (.istore 5, 2) := by decide +kernel
theorem dX3_addShared_36 : decode cX3_addShared 36 = .ok (.iconst 1, 1) := by decide +kernel
theorem dX3_addShared_37 : decode cX3_addShared 37 = .ok (.istore 6, 2) := by decide +kernel
theorem dX3_addShared_39 : decode cX3_addShared 39 = .ok (.iload 6, 2) := by decide +kernel
theorem dX3_addShared_41 : decode cX3_addShared 41 = .ok (.iload 5, 2) := by decide +kernel
theorem dX3_addShared_43 : decode cX3_addShared 43 = .ok (.if_icmp .gt 32, 3) := by decide +kernel
theorem dX3_addShared_46 : decode cX3_addShared 46 = .ok (.aload_n 0, 1) := by decide +kernel
theorem dX3_addShared_47 : decode cX3_addShared 47 = .ok (.getfield 52, 3) := by decide +kernel
theorem dX3_addShared_50 : decode cX3_addShared 50 = .ok (.iload 6, 2) := by decide +kernel
theorem dX3_addShared_52 : decode cX3_addShared 52 = .ok (.ishr, 1) := by decide +kernel
theorem dX3_addShared_53 : decode cX3_addShared 53 = .ok (.iconst 1, 1) := by decide +kernel
theorem dX3_addShared_54 : decode cX3_addShared 54 = .ok (.iand, 1) := by decide +kernel
theorem dX3_addShared_55 : decode cX3_addShared 55 = .ok (.ifCond .eq 14, 3) := by decide +kernel
theorem dX3_addShared_58 : decode cX3_addShared 58 = .ok (.aload_n 0, 1) := by decide +kernel
theorem dX3_addShared_59 : decode cX3_addShared 59 = .ok (.iload_n 1, 1) := by decide +kernel
theorem dX3_addShared_60 : decode cX3_addShared 60 = .ok (.iload 6, 2) := by decide +kernel
theorem dX3_addShared_62 : decode cX3_addShared 62 = .ok (.iload 4, 2) := by decide +kernel
theorem dX3_addShared_64 : decode cX3_addShared 64 = .ok (.imul, 1) := by decide +kernel
theorem dX3_addShared_65 : decode cX3_addShared 65 = .ok (.isub, 1) := by decide +kernel
theorem dX3_addShared_66 : decode cX3_addShared 66 = .ok (.invokevirtual 80, 3) := by decide +kernel
theorem dX3_addShared_69 : decode cX3_addShared 69 = .ok (.iinc 6 1, 3) := by decide +kernel
theorem dX3_addShared_72 : decode cX3_addShared 72 = .ok (.goto (-33), 3) := by decide +kernel
theorem dX3_addShared_75 : decode cX3_addShared 75 = .ok (.return_, 1) := by decide +kernel
theorem dX3_addNext_0 : decode cX3_addNext 0 = .ok (.aload_n 0, 1) := by decide +kernel
theorem dX3_addNext_1 : decode cX3_addNext 1 = .ok (.getfield 68, 3) := by decide +kernel
theorem dX3_addNext_4 : decode cX3_addNext 4 = .ok (.ifCond .lt 35, 3) := by decide +kernel
theorem dX3_addNext_7 : decode cX3_addNext 7 = .ok (.aload_n 0, 1) := by decide +kernel
theorem dX3_addNext_8 : decode cX3_addNext 8 = .ok (.getfield 68, 3) := by decide +kernel
theorem dX3_addNext_11 : decode cX3_addNext 11 = .ok (.aload_n 0, 1) := by decide +kernel
theorem dX3_addNext_12 : decode cX3_addNext 12 = .ok (.getfield 19, 3) := by decide +kernel
theorem dX3_addNext_15 : decode cX3_addNext 15 = .ok (.arraylength, 1) := by decide +kernel
theorem dX3_addNext_16 : decode cX3_addNext 16 = .ok (.if_icmp .ge 23, 3) := by decide +kernel
theorem dX3_addNext_19 : decode cX3_addNext 19 = .ok (.aload_n 0, 1) := by decide +kernel
theorem dX3_addNext_20 : decode cX3_addNext 20 = .ok (.getfield 19, 3) := by decide +kernel
theorem dX3_addNext_23 : decode cX3_addNext 23 = .ok (.aload_n 0, 1) := by decide +kernel
theorem dX3_addNext_24 : decode cX3_addNext 24 = .ok (.getfield 68, 3) := by decide +kernel
theorem dX3_addNext_27 : decode cX3_addNext 27 = .ok (.iload_n 1, 1) := by decide +kernel
theorem dX3_addNext_28 : decode cX3_addNext 28 = .ok (.iastore, 1) := by decide +kernel
theorem dX3_addNext_29 : decode cX3_addNext 29 = .ok (.aload_n 0, 1) := by decide +kernel
theorem dX3_addNext_30 : decode cX3_addNext 30 = .ok (.dup, 1) := by decide +kernel
theorem dX3_addNext_31 : decode cX3_addNext 31 = .ok (.getfield 68, 3) := by decide +kernel
theorem dX3_addNext_34 : decode cX3_addNext 34 = .ok (.iconst 1, 1) := by decide +kernel
theorem dX3_addNext_35 : decode cX3_addNext 35 = .ok (.iadd, 1) := by decide +kernel
theorem dX3_addNext_36 : decode cX3_addNext 36 = .ok (.putfield 68, 3) := by decide +kernel
theorem dX3_addNext_39 : decode cX3_addNext 39 = .ok (.return_, 1) := by decide +kernel
theorem dX3_nextAt_0 : decode cX3_nextAt 0 = .ok (.iload_n 1, 1) := by decide +kernel
theorem dX3_nextAt_1 : decode cX3_nextAt 1 = .ok (.ifCond .lt 21, 3) := by decide +kernel
theorem dX3_nextAt_4 : decode cX3_nextAt 4 = .ok (.iload_n 1, 1) := by decide +kernel
theorem dX3_nextAt_5 : decode cX3_nextAt 5 = .ok (.aload_n 0, 1) := by decide +kernel
theorem dX3_nextAt_6 : decode cX3_nextAt 6 = .ok (.getfield 19, 3) := by decide +kernel
theorem dX3_nextAt_9 : decode cX3_nextAt 9 = .ok (.arraylength, 1) := by decide +kernel
theorem dX3_nextAt_10 : decode cX3_nextAt 10 = .ok (.if_icmp .ge 12, 3) := by decide +kernel
theorem dX3_nextAt_13 : decode cX3_nextAt 13 = .ok (.aload_n 0, 1) := by decide +kernel
theorem dX3_nextAt_14 : decode cX3_nextAt 14 = .ok (.getfield 19, 3) := by decide +kernel
theorem dX3_nextAt_17 : decode cX3_nextAt 17 = .ok (.iload_n 1, 1) := by decide +kernel
theorem dX3_nextAt_18 : decode cX3_nextAt 18 = .ok (.iaload, 1) := by decide +kernel
theorem dX3_nextAt_19 : decode cX3_nextAt 19 = .ok (.goto 4, 3) := by decide +kernel
theorem dX3_nextAt_22 : decode cX3_nextAt 22 = .ok (.iconst 0, 1) := by decide +kernel
theorem dX3_nextAt_23 : decode cX3_nextAt 23 = .ok (.ireturn, 1) := by decide +kernel
theorem dX3_solveBelow_0 : decode cX3_solveBelow 0 = .ok (.aload_n 0, 1) := by decide +kernel
theorem dX3_solveBelow_1 : decode cX3_solveBelow 1 = .ok (.iload_n 1, 1) := by decide +kernel
theorem dX3_solveBelow_2 : decode cX3_solveBelow 2 = .ok (.invokevirtual 93, 3) := by decide +kernel
theorem dX3_solveBelow_5 : decode cX3_solveBelow 5 = .ok (.ifCond .eq 4, 3) := by decide +kernel
theorem dX3_solveBelow_8 : decode cX3_solveBelow 8 = .ok (.return_, 1) := by decide +kernel
theorem dX3_solveBelow_9 : decode cX3_solveBelow 9 = .ok (.iconst 0, 1) := by decide +kernel
theorem dX3_solveBelow_10 : decode cX3_solveBelow 10 = .ok (.istore_n 2, 1) := by decide +kernel
theorem dX3_solveBelow_11 : decode cX3_solveBelow 11 = .ok (.iload_n 1, 1) := by decide +kernel
theorem dX3_solveBelow_12 : decode cX3_solveBelow 12 = .ok (.invokestatic 97, 3) := by decide +kernel
theorem dX3_solveBelow_15 : decode cX3_solveBelow 15 = .ok (.iconst 1, 1) := by decide +kernel
theorem dX3_solveBelow_16 : decode cX3_solveBelow 16 = .ok (.iadd, 1) := by decide +kernel
theorem dX3_solveBelow_17 : decode cX3_solveBelow 17 = .ok (.iload_n 1, 1) := by decide +kernel
theorem dX3_solveBelow_18 : decode cX3_solveBelow 18 = .ok (.invokestatic 100, 3) := by decide +kernel
theorem dX3_solveBelow_21 : decode cX3_solveBelow 21 = .ok (.imul, 1) := by decide +kernel
theorem dX3_solveBelow_22 : decode cX3_solveBelow 22 = .ok (.istore_n 3, 1) := by decide +kernel
theorem dX3_solveBelow_23 : decode cX3_solveBelow 23 = .ok (.iload_n 3, 1) := by decide +kernel
theorem dX3_solveBelow_24 : decode cX3_solveBelow 24 = .ok (.ifCond .le 33, 3) := by decide +kernel
theorem dX3_solveBelow_27 : decode cX3_solveBelow 27 = .ok (.aload_n 0, 1) := by decide +kernel
theorem dX3_solveBelow_28 : decode cX3_solveBelow 28 = .ok (.iload_n 2, 1) := by decide +kernel
theorem dX3_solveBelow_29 : decode cX3_solveBelow 29 = .ok (.invokevirtual 93, 3) := by decide +kernel
theorem dX3_solveBelow_32 : decode cX3_solveBelow 32 = .ok (.ifCond .ne 13, 3) := by decide +kernel
theorem dX3_solveBelow_35 : decode cX3_solveBelow 35 = .ok (.aload_n 0, 1) := by decide +kernel
theorem dX3_solveBelow_36 : decode cX3_solveBelow 36 = .ok (.iload_n 2, 1) := by decide +kernel
theorem dX3_solveBelow_37 : decode cX3_solveBelow 37 = .ok (.aload_n 0, 1) := by decide +kernel
theorem dX3_solveBelow_38 : decode cX3_solveBelow 38 = .ok (.iload_n 2, 1) := by decide +kernel
theorem dX3_solveBelow_39 : decode cX3_solveBelow 39 = .ok (.invokevirtual 103, 3) := by decide +kernel
theorem dX3_solveBelow_42 : decode cX3_solveBelow 42 = .ok (.invokevirtual 106, 3) := by decide +kernel
theorem dX3_solveBelow_45 : decode cX3_solveBelow 45 = .ok (.iload_n 2, 1) := by decide +kernel
theorem dX3_solveBelow_46 : decode cX3_solveBelow 46 = .ok (.iload_n 1, 1) := by decide +kernel
theorem dX3_solveBelow_47 : decode cX3_solveBelow 47 = .ok (.invokestatic 109, 3) := by decide +kernel
theorem dX3_solveBelow_50 : decode cX3_solveBelow 50 = .ok (.istore_n 2, 1) := by decide +kernel
theorem dX3_solveBelow_51 : decode cX3_solveBelow 51 = .ok (.iinc 3 (-1), 3) := by decide +kernel
theorem dX3_solveBelow_54 : decode cX3_solveBelow 54 = .ok (.goto (-31), 3) := by decide +kernel
theorem dX3_solveBelow_57 : decode cX3_solveBelow 57 = .ok (.return_, 1) := by decide +kernel
theorem dX3_countHeapsBelow_0 : decode cX3_countHeapsBelow 0 = .ok (.iconst 1, 1) := by decide +kernel
theorem dX3_countHeapsBelow_1 : decode cX3_countHeapsBelow 1 = .ok (.istore_n 1, 1) := by decide +kernel
theorem dX3_countHeapsBelow_2 : decode cX3_countHeapsBelow 2 = .ok (.iconst 0, 1) := by decide +kernel
theorem dX3_countHeapsBelow_3 : decode cX3_countHeapsBelow 3 = .ok (.istore_n 2, 1) := by decide +kernel
theorem dX3_countHeapsBelow_4 : decode cX3_countHeapsBelow 4 = .ok (.iload_n 2, 1) := by decide +kernel
theorem dX3_countHeapsBelow_5 : decode cX3_countHeapsBelow 5 = .ok (.iconst 4, 1) := by decide +kernel
theorem dX3_countHeapsBelow_6 : decode cX3_countHeapsBelow 6 = .ok (.if_icmp .ge 19, 3) := by decide +kernel
theorem dX3_countHeapsBelow_9 : decode cX3_countHeapsBelow 9 = .ok (.iload_n 1, 1) := by decide +kernel
theorem dX3_countHeapsBelow_10 : decode cX3_countHeapsBelow 10 = .ok (.iload_n 0, 1) := by decide +kernel
theorem dX3_countHeapsBelow_11 : decode cX3_countHeapsBelow 11 = .ok (.iload_n 2, 1) := by decide +kernel
theorem dX3_countHeapsBelow_12 : decode cX3_countHeapsBelow 12 = .ok (.invokestatic 84, 3) := by decide +kernel
theorem dX3_countHeapsBelow_15 : decode cX3_countHeapsBelow 15 = .ok (.iconst 1, 1) := by decide +kernel
theorem dX3_countHeapsBelow_16 : decode cX3_countHeapsBelow 16 = .ok (.iadd, 1) := by decide +kernel
theorem dX3_countHeapsBelow_17 : decode cX3_countHeapsBelow 17 = .ok (.imul, 1) := by decide +kernel
theorem dX3_countHeapsBelow_18 : decode cX3_countHeapsBelow 18 = .ok (.istore_n 1, 1) := by decide +kernel
theorem dX3_countHeapsBelow_19 : decode cX3_countHeapsBelow 19 = .ok (.iinc 2 1, 3) := by decide +kernel
theorem dX3_countHeapsBelow_22 : decode cX3_countHeapsBelow 22 = .ok (.goto (-18), 3) := by decide +kernel
theorem dX3_countHeapsBelow_25 : decode cX3_countHeapsBelow 25 = .ok (.iload_n 1, 1) := by decide +kernel
theorem dX3_countHeapsBelow_26 : decode cX3_countHeapsBelow 26 = .ok (.ireturn, 1) := by decide +kernel
theorem dX3_followingBelow_0 : decode cX3_followingBelow 0 = .ok (.iload_n 0, 1) := by decide +kernel
theorem dX3_followingBelow_1 : decode cX3_followingBelow 1 = .ok (.istore_n 2, 1) := by decide +kernel
theorem dX3_followingBelow_2 : decode cX3_followingBelow 2 = .ok (.iconst 0, 1) := by decide +kernel
theorem dX3_followingBelow_3 : decode cX3_followingBelow 3 = .ok (.istore_n 3, 1) := by decide +kernel
theorem dX3_followingBelow_4 : decode cX3_followingBelow 4 = .ok (.iload_n 3, 1) := by decide +kernel
theorem dX3_followingBelow_5 : decode cX3_followingBelow 5 = .ok (.iconst 4, 1) := by decide +kernel
theorem dX3_followingBelow_6 : decode cX3_followingBelow 6 = .ok (.if_icmp .ge 37, 3) := by decide +kernel
theorem dX3_followingBelow_9 : decode cX3_followingBelow 9 = .ok (.iload_n 2, 1) := by decide +kernel
theorem dX3_followingBelow_10 : decode cX3_followingBelow 10 = .ok (.iload_n 3, 1) := by decide +kernel
theorem dX3_followingBelow_11 : decode cX3_followingBelow 11 = .ok (.invokestatic 84, 3) := by decide +kernel
theorem dX3_followingBelow_14 : decode cX3_followingBelow 14 = .ok (.iload_n 1, 1) := by decide +kernel
theorem dX3_followingBelow_15 : decode cX3_followingBelow 15 = .ok (.iload_n 3, 1) := by decide +kernel
theorem dX3_followingBelow_16 : decode cX3_followingBelow 16 = .ok (.invokestatic 84, 3) := by decide +kernel
theorem dX3_followingBelow_19 : decode cX3_followingBelow 19 = .ok (.if_icmp .ge 11, 3) := by decide +kernel
theorem dX3_followingBelow_22 : decode cX3_followingBelow 22 = .ok (.iload_n 2, 1) := by decide +kernel
theorem dX3_followingBelow_23 : decode cX3_followingBelow 23 = .ok (.iconst 1, 1) := by decide +kernel
theorem dX3_followingBelow_24 : decode cX3_followingBelow 24 = .ok (.iconst 4, 1) := by decide +kernel
theorem dX3_followingBelow_25 : decode cX3_followingBelow 25 = .ok (.iload_n 3, 1) := by decide +kernel
theorem dX3_followingBelow_26 : decode cX3_followingBelow 26 = .ok (.imul, 1) := by decide +kernel
theorem dX3_followingBelow_27 : decode cX3_followingBelow 27 = .ok (.ishl, 1) := by decide +kernel
theorem dX3_followingBelow_28 : decode cX3_followingBelow 28 = .ok (.iadd, 1) := by decide +kernel
theorem dX3_followingBelow_29 : decode cX3_followingBelow 29 = .ok (.ireturn, 1) := by decide +kernel
theorem dX3_followingBelow_30 : decode cX3_followingBelow 30 = .ok (.iload_n 2, 1) := by decide +kernel
theorem dX3_followingBelow_31 : decode cX3_followingBelow 31 = .ok (.iload_n 3, 1) := by decide +kernel
theorem dX3_followingBelow_32 : decode cX3_followingBelow 32 = .ok (.iconst 0, 1) := by decide +kernel
theorem dX3_followingBelow_33 : decode cX3_followingBelow 33 = .ok (.invokestatic 112, 3) := by decide +kernel
theorem dX3_followingBelow_36 : decode cX3_followingBelow 36 = .ok (.istore_n 2, 1) := by decide +kernel
theorem dX3_followingBelow_37 : decode cX3_followingBelow 37 = .ok (.iinc 3 1, 3) := by decide +kernel
theorem dX3_followingBelow_40 : decode cX3_followingBelow 40 = .ok (.goto (-36), 3) := by decide +kernel
theorem dX3_followingBelow_43 : decode cX3_followingBelow 43 = .ok (.iload_n 2, 1) := by decide +kernel
theorem dX3_followingBelow_44 : decode cX3_followingBelow 44 = .ok (.ldc 79, 2) := by decide +kernel
theorem dX3_followingBelow_46 : decode cX3_followingBelow 46 = .ok (.iadd, 1) := by decide +kernel
theorem dX3_followingBelow_47 : decode cX3_followingBelow 47 = .ok (.ireturn, 1) := by decide +kernel
theorem dX3_solve_0 : decode cX3_solve 0 = .ok (.aload_n 0, 1) := by decide +kernel
theorem dX3_solve_1 : decode cX3_solve 1 = .ok (.iload_n 1, 1) := by decide +kernel
theorem dX3_solve_2 : decode cX3_solve 2 = .ok (.invokevirtual 116, 3) := by decide +kernel
theorem dX3_solve_5 : decode cX3_solve 5 = .ok (.istore_n 2, 1) := by decide +kernel
theorem dX3_solve_6 : decode cX3_solve 6 = .ok (.lconst 0, 1) := by decide +kernel
theorem dX3_solve_7 : decode cX3_solve 7 = .ok (.lstore_n 3, 1) := by decide +kernel
theorem dX3_solve_8 : decode cX3_solve 8 = .ok (.bipush 64, 2) := by decide +kernel
theorem dX3_solve_10 : decode cX3_solve 10 = .ok (.istore 5, 2) := by decide +kernel
theorem dX3_solve_12 : decode cX3_solve 12 = .ok (.iconst 0, 1) := by decide +kernel
theorem dX3_solve_13 : decode cX3_solve 13 = .ok (.istore 6, 2) := by decide +kernel
theorem dX3_solve_15 : decode cX3_solve 15 = .ok (.iconst 0, 1) := by decide +kernel
theorem dX3_solve_16 : decode cX3_solve 16 = .ok (.istore 7, 2) := by decide +kernel
theorem dX3_solve_18 : decode cX3_solve 18 = .ok (.iload 7, 2) := by decide +kernel
theorem dX3_solve_20 : decode cX3_solve 20 = .ok (.iload_n 2, 1) := by decide +kernel
theorem dX3_solve_21 : decode cX3_solve 21 = .ok (.if_icmp .ge 68, 3) := by decide +kernel
theorem dX3_solve_24 : decode cX3_solve 24 = .ok (.aload_n 0, 1) := by decide +kernel
theorem dX3_solve_25 : decode cX3_solve 25 = .ok (.aload_n 0, 1) := by decide +kernel
theorem dX3_solve_26 : decode cX3_solve 26 = .ok (.iload 7, 2) := by decide +kernel
theorem dX3_solve_28 : decode cX3_solve 28 = .ok (.invokevirtual 119, 3) := by decide +kernel
theorem dX3_solve_31 : decode cX3_solve 31 = .ok (.invokevirtual 93, 3) := by decide +kernel
theorem dX3_solve_34 : decode cX3_solve 34 = .ok (.istore 8, 2) := by decide +kernel
theorem dX3_solve_36 : decode cX3_solve 36 = .ok (.iload 8, 2) := by decide +kernel
theorem dX3_solve_38 : decode cX3_solve 38 = .ok (.bipush 6, 2) := by decide +kernel
theorem dX3_solve_40 : decode cX3_solve 40 = .ok (.ishr, 1) := by decide +kernel
theorem dX3_solve_41 : decode cX3_solve 41 = .ok (.bipush 63, 2) := by decide +kernel
theorem dX3_solve_43 : decode cX3_solve 43 = .ok (.iand, 1) := by decide +kernel
theorem dX3_solve_44 : decode cX3_solve 44 = .ok (.istore 9, 2) := by decide +kernel
theorem dX3_solve_46 : decode cX3_solve 46 = .ok (.lload_n 3, 1) := by decide +kernel
theorem dX3_solve_47 : decode cX3_solve 47 = .ok (.lconst 1, 1) := by decide +kernel
theorem dX3_solve_48 : decode cX3_solve 48 = .ok (.iload 8, 2) := by decide +kernel
theorem dX3_solve_50 : decode cX3_solve 50 = .ok (.bipush 63, 2) := by decide +kernel
theorem dX3_solve_52 : decode cX3_solve 52 = .ok (.iand, 1) := by decide +kernel
theorem dX3_solve_53 : decode cX3_solve 53 = .ok (.lshl, 1) := by decide +kernel
theorem dX3_solve_54 : decode cX3_solve 54 = .ok (.lor, 1) := by decide +kernel
theorem dX3_solve_55 : decode cX3_solve 55 = .ok (.lstore_n 3, 1) := by decide +kernel
theorem dX3_solve_56 : decode cX3_solve 56 = .ok (.iload 8, 2) := by decide +kernel
theorem dX3_solve_58 : decode cX3_solve 58 = .ok (.sipush 4096, 3) := by decide +kernel
theorem dX3_solve_61 : decode cX3_solve 61 = .ok (.iand, 1) := by decide +kernel
theorem dX3_solve_62 : decode cX3_solve 62 = .ok (.ifCond .ne 12, 3) := by decide +kernel
theorem dX3_solve_65 : decode cX3_solve 65 = .ok (.iload 5, 2) := by decide +kernel
theorem dX3_solve_67 : decode cX3_solve 67 = .ok (.iload 9, 2) := by decide +kernel
theorem dX3_solve_69 : decode cX3_solve 69 = .ok (.invokestatic 88, 3) := by decide +kernel
theorem dX3_solve_72 : decode cX3_solve 72 = .ok (.istore 5, 2) := by decide +kernel
theorem dX3_solve_74 : decode cX3_solve 74 = .ok (.iload 6, 2) := by decide +kernel
theorem dX3_solve_76 : decode cX3_solve 76 = .ok (.iload 9, 2) := by decide +kernel
theorem dX3_solve_78 : decode cX3_solve 78 = .ok (.invokestatic 122, 3) := by decide +kernel
theorem dX3_solve_81 : decode cX3_solve 81 = .ok (.istore 6, 2) := by decide +kernel
theorem dX3_solve_83 : decode cX3_solve 83 = .ok (.iinc 7 1, 3) := by decide +kernel
theorem dX3_solve_86 : decode cX3_solve 86 = .ok (.goto (-68), 3) := by decide +kernel
theorem dX3_solve_89 : decode cX3_solve 89 = .ok (.iload_n 2, 1) := by decide +kernel
theorem dX3_solve_90 : decode cX3_solve 90 = .ok (.ifCond .ne 18, 3) := by decide +kernel
theorem dX3_solve_93 : decode cX3_solve 93 = .ok (.aload_n 0, 1) := by decide +kernel
theorem dX3_solve_94 : decode cX3_solve 94 = .ok (.getfield 53, 3) := by decide +kernel
theorem dX3_solve_97 : decode cX3_solve 97 = .ok (.ifCond .eq 9, 3) := by decide +kernel
theorem dX3_solve_100 : decode cX3_solve 100 = .ok (.sipush 4096, 3) := by decide +kernel
theorem dX3_solve_103 : decode cX3_solve 103 = .ok (.goto 4, 3) := by decide +kernel
theorem dX3_solve_106 : decode cX3_solve 106 = .ok (.iconst 0, 1) := by decide +kernel
theorem dX3_solve_107 : decode cX3_solve 107 = .ok (.ireturn, 1) := by decide +kernel
theorem dX3_solve_108 : decode cX3_solve 108 = .ok (.iload 5, 2) := by decide +kernel
theorem dX3_solve_110 : decode cX3_solve 110 = .ok (.bipush 64, 2) := by decide +kernel
theorem dX3_solve_112 : decode cX3_solve 112 = .ok (.if_icmp .ge 7, 3) := by decide +kernel
theorem dX3_solve_115 : decode cX3_solve 115 = .ok (.iconst 1, 1) := by decide +kernel
theorem dX3_solve_116 : decode cX3_solve 116 = .ok (.goto 4, 3) := by decide +kernel
theorem dX3_solve_119 : decode cX3_solve 119 = .ok (.iconst 0, 1) := by decide +kernel
theorem dX3_solve_120 : decode cX3_solve 120 = .ok (.istore 7, 2) := by decide +kernel
theorem dX3_solve_122 : decode cX3_solve 122 = .ok (.iconst 1, 1) := by decide +kernel
theorem dX3_solve_123 : decode cX3_solve 123 = .ok (.iload 7, 2) := by decide +kernel
theorem dX3_solve_125 : decode cX3_solve 125 = .ok (.ifCond .eq 8, 3) := by decide +kernel
theorem dX3_solve_128 : decode cX3_solve 128 = .ok (.iload 5, 2) := by decide +kernel
theorem dX3_solve_130 : decode cX3_solve 130 = .ok (.goto 5, 3) := by decide +kernel
theorem dX3_solve_133 : decode cX3_solve 133 = .ok (.iload 6, 2) := by decide +kernel
theorem dX3_solve_135 : decode cX3_solve 135 = .ok (.iadd, 1) := by decide +kernel
theorem dX3_solve_136 : decode cX3_solve 136 = .ok (.istore 8, 2) := by decide +kernel
theorem dX3_solve_138 : decode cX3_solve 138 = .ok (.iload 7, 2) := by decide +kernel
theorem dX3_solve_140 : decode cX3_solve 140 = .ok (.ifCond .eq 9, 3) := by decide +kernel
theorem dX3_solve_143 : decode cX3_solve 143 = .ok (.sipush 4096, 3) := by decide +kernel
theorem dX3_solve_146 : decode cX3_solve 146 = .ok (.goto 4, 3) := by decide +kernel
theorem dX3_solve_149 : decode cX3_solve 149 = .ok (.iconst 0, 1) := by decide +kernel
theorem dX3_solve_150 : decode cX3_solve 150 = .ok (.iload 8, 2) := by decide +kernel
theorem dX3_solve_152 : decode cX3_solve 152 = .ok (.bipush 6, 2) := by decide +kernel
theorem dX3_solve_154 : decode cX3_solve 154 = .ok (.ishl, 1) := by decide +kernel
theorem dX3_solve_155 : decode cX3_solve 155 = .ok (.ior, 1) := by decide +kernel
theorem dX3_solve_156 : decode cX3_solve 156 = .ok (.lload_n 3, 1) := by decide +kernel
theorem dX3_solve_157 : decode cX3_solve 157 = .ok (.invokestatic 125, 3) := by decide +kernel
theorem dX3_solve_160 : decode cX3_solve 160 = .ok (.ior, 1) := by decide +kernel
theorem dX3_solve_161 : decode cX3_solve 161 = .ok (.ireturn, 1) := by decide +kernel
theorem dX3_leastOutside_0 : decode cX3_leastOutside 0 = .ok (.iconst 0, 1) := by decide +kernel
theorem dX3_leastOutside_1 : decode cX3_leastOutside 1 = .ok (.istore_n 2, 1) := by decide +kernel
theorem dX3_leastOutside_2 : decode cX3_leastOutside 2 = .ok (.iload_n 2, 1) := by decide +kernel
theorem dX3_leastOutside_3 : decode cX3_leastOutside 3 = .ok (.bipush 63, 2) := by decide +kernel
theorem dX3_leastOutside_5 : decode cX3_leastOutside 5 = .ok (.if_icmp .ge 19, 3) := by decide +kernel
theorem dX3_leastOutside_8 : decode cX3_leastOutside 8 = .ok (.lload_n 0, 1) := by decide +kernel
theorem dX3_leastOutside_9 : decode cX3_leastOutside 9 = .ok (.iload_n 2, 1) := by decide +kernel
theorem dX3_leastOutside_10 : decode cX3_leastOutside 10 = .ok (.lshr, 1) := by decide +kernel
theorem dX3_leastOutside_11 : decode cX3_leastOutside 11 = .ok (.lconst 1, 1) := by decide +kernel
theorem dX3_leastOutside_12 : decode cX3_leastOutside 12 = .ok (.land, 1) := by decide +kernel
theorem dX3_leastOutside_13 : decode cX3_leastOutside 13 = .ok (.lconst 0, 1) := by decide +kernel
theorem dX3_leastOutside_14 : decode cX3_leastOutside 14 = .ok (.lcmp, 1) := by decide +kernel
theorem dX3_leastOutside_15 : decode cX3_leastOutside 15 = .ok (.ifCond .eq 9, 3) := by decide +kernel
theorem dX3_leastOutside_18 : decode cX3_leastOutside 18 = .ok (.iinc 2 1, 3) := by decide +kernel
theorem dX3_leastOutside_21 : decode cX3_leastOutside 21 = .ok (.goto (-19), 3) := by decide +kernel
theorem dX3_leastOutside_24 : decode cX3_leastOutside 24 = .ok (.iload_n 2, 1) := by decide +kernel
theorem dX3_leastOutside_25 : decode cX3_leastOutside 25 = .ok (.ireturn, 1) := by decide +kernel
theorem dX3_keep_0 : decode cX3_keep 0 = .ok (.iload_n 1, 1) := by decide +kernel
theorem dX3_keep_1 : decode cX3_keep 1 = .ok (.ifCond .lt 27, 3) := by decide +kernel
theorem dX3_keep_4 : decode cX3_keep 4 = .ok (.iload_n 1, 1) := by decide +kernel
theorem dX3_keep_5 : decode cX3_keep 5 = .ok (.aload_n 0, 1) := by decide +kernel
theorem dX3_keep_6 : decode cX3_keep 6 = .ok (.getfield 10, 3) := by decide +kernel
theorem dX3_keep_9 : decode cX3_keep 9 = .ok (.arraylength, 1) := by decide +kernel
theorem dX3_keep_10 : decode cX3_keep 10 = .ok (.if_icmp .ge 18, 3) := by decide +kernel
theorem dX3_keep_13 : decode cX3_keep 13 = .ok (.aload_n 0, 1) := by decide +kernel
theorem dX3_keep_14 : decode cX3_keep 14 = .ok (.getfield 10, 3) := by decide +kernel
theorem dX3_keep_17 : decode cX3_keep 17 = .ok (.iload_n 1, 1) := by decide +kernel
theorem dX3_keep_18 : decode cX3_keep 18 = .ok (.aload_n 0, 1) := by decide +kernel
theorem dX3_keep_19 : decode cX3_keep 19 = .ok (.getfield 26, 3) := by decide +kernel
theorem dX3_keep_22 : decode cX3_keep 22 = .ok (.bipush 13, 2) := by decide +kernel
theorem dX3_keep_24 : decode cX3_keep 24 = .ok (.ishl, 1) := by decide +kernel
theorem dX3_keep_25 : decode cX3_keep 25 = .ok (.iload_n 2, 1) := by decide +kernel
theorem dX3_keep_26 : decode cX3_keep 26 = .ok (.ior, 1) := by decide +kernel
theorem dX3_keep_27 : decode cX3_keep 27 = .ok (.iastore, 1) := by decide +kernel
theorem dX3_keep_28 : decode cX3_keep 28 = .ok (.return_, 1) := by decide +kernel
theorem dX3_foundAt_0 : decode cX3_foundAt 0 = .ok (.iload_n 1, 1) := by decide +kernel
theorem dX3_foundAt_1 : decode cX3_foundAt 1 = .ok (.ifCond .lt 21, 3) := by decide +kernel
theorem dX3_foundAt_4 : decode cX3_foundAt 4 = .ok (.iload_n 1, 1) := by decide +kernel
theorem dX3_foundAt_5 : decode cX3_foundAt 5 = .ok (.aload_n 0, 1) := by decide +kernel
theorem dX3_foundAt_6 : decode cX3_foundAt 6 = .ok (.getfield 10, 3) := by decide +kernel
theorem dX3_foundAt_9 : decode cX3_foundAt 9 = .ok (.arraylength, 1) := by decide +kernel
theorem dX3_foundAt_10 : decode cX3_foundAt 10 = .ok (.if_icmp .ge 12, 3) := by decide +kernel
theorem dX3_foundAt_13 : decode cX3_foundAt 13 = .ok (.aload_n 0, 1) := by decide +kernel
theorem dX3_foundAt_14 : decode cX3_foundAt 14 = .ok (.getfield 10, 3) := by decide +kernel
theorem dX3_foundAt_17 : decode cX3_foundAt 17 = .ok (.iload_n 1, 1) := by decide +kernel
theorem dX3_foundAt_18 : decode cX3_foundAt 18 = .ok (.iaload, 1) := by decide +kernel
theorem dX3_foundAt_19 : decode cX3_foundAt 19 = .ok (.goto 4, 3) := by decide +kernel
theorem dX3_foundAt_22 : decode cX3_foundAt 22 = .ok (.iconst 0, 1) := by decide +kernel
theorem dX3_foundAt_23 : decode cX3_foundAt 23 = .ok (.istore_n 2, 1) := by decide +kernel
theorem dX3_foundAt_24 : decode cX3_foundAt 24 = .ok (.iload_n 2, 1) := by decide +kernel
theorem dX3_foundAt_25 : decode cX3_foundAt 25 = .ok (.bipush 13, 2) := by decide +kernel
theorem dX3_foundAt_27 : decode cX3_foundAt 27 = .ok (.ishr, 1) := by decide +kernel
theorem dX3_foundAt_28 : decode cX3_foundAt 28 = .ok (.aload_n 0, 1) := by decide +kernel
theorem dX3_foundAt_29 : decode cX3_foundAt 29 = .ok (.getfield 26, 3) := by decide +kernel
theorem dX3_foundAt_32 : decode cX3_foundAt 32 = .ok (.if_icmp .ne 7, 3) := by decide +kernel
theorem dX3_foundAt_35 : decode cX3_foundAt 35 = .ok (.iload_n 2, 1) := by decide +kernel
theorem dX3_foundAt_36 : decode cX3_foundAt 36 = .ok (.goto 4, 3) := by decide +kernel
theorem dX3_foundAt_39 : decode cX3_foundAt 39 = .ok (.iconst 0, 1) := by decide +kernel
theorem dX3_foundAt_40 : decode cX3_foundAt 40 = .ok (.ireturn, 1) := by decide +kernel
theorem dX3_valueAt_0 : decode cX3_valueAt 0 = .ok (.aload_n 0, 1) := by decide +kernel
theorem dX3_valueAt_1 : decode cX3_valueAt 1 = .ok (.iload_n 1, 1) := by decide +kernel
theorem dX3_valueAt_2 : decode cX3_valueAt 2 = .ok (.invokevirtual 93, 3) := by decide +kernel
theorem dX3_valueAt_5 : decode cX3_valueAt 5 = .ok (.bipush 63, 2) := by decide +kernel
theorem dX3_valueAt_7 : decode cX3_valueAt 7 = .ok (.iand, 1) := by decide +kernel
theorem dX3_valueAt_8 : decode cX3_valueAt 8 = .ok (.ireturn, 1) := by decide +kernel
theorem dX3_isWonAt_0 : decode cX3_isWonAt 0 = .ok (.aload_n 0, 1) := by decide +kernel
theorem dX3_isWonAt_1 : decode cX3_isWonAt 1 = .ok (.iload_n 1, 1) := by decide +kernel
theorem dX3_isWonAt_2 : decode cX3_isWonAt 2 = .ok (.invokevirtual 93, 3) := by decide +kernel
theorem dX3_isWonAt_5 : decode cX3_isWonAt 5 = .ok (.sipush 4096, 3) := by decide +kernel
theorem dX3_isWonAt_8 : decode cX3_isWonAt 8 = .ok (.iand, 1) := by decide +kernel
theorem dX3_isWonAt_9 : decode cX3_isWonAt 9 = .ok (.ifCond .eq 7, 3) := by decide +kernel
theorem dX3_isWonAt_12 : decode cX3_isWonAt 12 = .ok (.iconst 1, 1) := by decide +kernel
theorem dX3_isWonAt_13 : decode cX3_isWonAt 13 = .ok (.goto 4, 3) := by decide +kernel
theorem dX3_isWonAt_16 : decode cX3_isWonAt 16 = .ok (.iconst 0, 1) := by decide +kernel
theorem dX3_isWonAt_17 : decode cX3_isWonAt 17 = .ok (.ireturn, 1) := by decide +kernel
theorem dX3_lengthAt_0 : decode cX3_lengthAt 0 = .ok (.aload_n 0, 1) := by decide +kernel
theorem dX3_lengthAt_1 : decode cX3_lengthAt 1 = .ok (.iload_n 1, 1) := by decide +kernel
theorem dX3_lengthAt_2 : decode cX3_lengthAt 2 = .ok (.invokevirtual 93, 3) := by decide +kernel
theorem dX3_lengthAt_5 : decode cX3_lengthAt 5 = .ok (.bipush 6, 2) := by decide +kernel
theorem dX3_lengthAt_7 : decode cX3_lengthAt 7 = .ok (.ishr, 1) := by decide +kernel
theorem dX3_lengthAt_8 : decode cX3_lengthAt 8 = .ok (.bipush 63, 2) := by decide +kernel
theorem dX3_lengthAt_10 : decode cX3_lengthAt 10 = .ok (.iand, 1) := by decide +kernel
theorem dX3_lengthAt_11 : decode cX3_lengthAt 11 = .ok (.ireturn, 1) := by decide +kernel
theorem dX4_init_0 : decode cX4_init 0 = .ok (.aload_n 0, 1) := by decide +kernel
theorem dX4_init_1 : decode cX4_init 1 = .ok (.invokespecial 3, 3) := by decide +kernel
theorem dX4_init_4 : decode cX4_init 4 = .ok (.aload_n 0, 1) := by decide +kernel
theorem dX4_init_5 : decode cX4_init 5 = .ok (.bipush 40, 2) := by decide +kernel
theorem dX4_init_7 : decode cX4_init 7 = .ok (.newarray .int, 2) := by decide +kernel
theorem dX4_init_9 : decode cX4_init 9 = .ok (.putfield 9, 3) := by decide +kernel
theorem dX4_init_12 : decode cX4_init 12 = .ok (.return_, 1) := by decide +kernel
theorem dX4_clear_0 : decode cX4_clear 0 = .ok (.aload_n 0, 1) := by decide +kernel
theorem dX4_clear_1 : decode cX4_clear 1 = .ok (.iconst 0, 1) := by decide +kernel
theorem dX4_clear_2 : decode cX4_clear 2 = .ok (.putfield 15, 3) := by decide +kernel
theorem dX4_clear_5 : decode cX4_clear 5 = .ok (.aload_n 0, 1) := by decide +kernel
theorem dX4_clear_6 : decode cX4_clear 6 = .ok (.iconst 0, 1) := by decide +kernel
theorem dX4_clear_7 : decode cX4_clear 7 = .ok (.putfield 19, 3) := by decide +kernel
theorem dX4_clear_10 : decode cX4_clear 10 = .ok (.aload_n 0, 1) := by decide +kernel
theorem dX4_clear_11 : decode cX4_clear 11 = .ok (.iconst 0, 1) := by decide +kernel
theorem dX4_clear_12 : decode cX4_clear 12 = .ok (.putfield 22, 3) := by decide +kernel
theorem dX4_clear_15 : decode cX4_clear 15 = .ok (.aload_n 0, 1) := by decide +kernel
theorem dX4_clear_16 : decode cX4_clear 16 = .ok (.iconst 0, 1) := by decide +kernel
theorem dX4_clear_17 : decode cX4_clear 17 = .ok (.putfield 25, 3) := by decide +kernel
theorem dX4_clear_20 : decode cX4_clear 20 = .ok (.aload_n 0, 1) := by decide +kernel
theorem dX4_clear_21 : decode cX4_clear 21 = .ok (.iconst 0, 1) := by decide +kernel
theorem dX4_clear_22 : decode cX4_clear 22 = .ok (.putfield 29, 3) := by decide +kernel
theorem dX4_clear_25 : decode cX4_clear 25 = .ok (.return_, 1) := by decide +kernel
theorem dX4_copyFrom_0 : decode cX4_copyFrom 0 = .ok (.aload_n 0, 1) := by decide +kernel
theorem dX4_copyFrom_1 : decode cX4_copyFrom 1 = .ok (.aload_n 1, 1) := by decide +kernel
theorem dX4_copyFrom_2 : decode cX4_copyFrom 2 = .ok (.getfield 15, 3) := by decide +kernel
theorem dX4_copyFrom_5 : decode cX4_copyFrom 5 = .ok (.putfield 15, 3) := by decide +kernel
theorem dX4_copyFrom_8 : decode cX4_copyFrom 8 = .ok (.aload_n 0, 1) := by decide +kernel
theorem dX4_copyFrom_9 : decode cX4_copyFrom 9 = .ok (.aload_n 1, 1) := by decide +kernel
theorem dX4_copyFrom_10 : decode cX4_copyFrom 10 = .ok (.getfield 19, 3) := by decide +kernel
theorem dX4_copyFrom_13 : decode cX4_copyFrom 13 = .ok (.putfield 19, 3) := by decide +kernel
theorem dX4_copyFrom_16 : decode cX4_copyFrom 16 = .ok (.aload_n 0, 1) := by decide +kernel
theorem dX4_copyFrom_17 : decode cX4_copyFrom 17 = .ok (.aload_n 1, 1) := by decide +kernel
theorem dX4_copyFrom_18 : decode cX4_copyFrom 18 = .ok (.getfield 22, 3) := by decide +kernel
theorem dX4_copyFrom_21 : decode cX4_copyFrom 21 = .ok (.putfield 22, 3) := by decide +kernel
theorem dX4_copyFrom_24 : decode cX4_copyFrom 24 = .ok (.aload_n 0, 1) := by decide +kernel
theorem dX4_copyFrom_25 : decode cX4_copyFrom 25 = .ok (.aload_n 1, 1) := by decide +kernel
theorem dX4_copyFrom_26 : decode cX4_copyFrom 26 = .ok (.getfield 25, 3) := by decide +kernel
theorem dX4_copyFrom_29 : decode cX4_copyFrom 29 = .ok (.putfield 25, 3) := by decide +kernel
theorem dX4_copyFrom_32 : decode cX4_copyFrom 32 = .ok (.aload_n 0, 1) := by decide +kernel
