theorem dX0_init_0 : decode cX0_init 0 = .ok (.aload_n 0, 1) := by decide +kernel
theorem dX0_init_1 : decode cX0_init 1 = .ok (.invokespecial 3, 3) := by decide +kernel
theorem dX0_init_4 : decode cX0_init 4 = .ok (.aload_n 0, 1) := by decide +kernel
theorem dX0_init_5 : decode cX0_init 5 = .ok (.bipush 6, 2) := by decide +kernel
theorem dX0_init_7 : decode cX0_init 7 = .ok (.anewarray 9, 3) := by decide +kernel
theorem dX0_init_10 : decode cX0_init 10 = .ok (.putfield 11, 3) := by decide +kernel
theorem dX0_init_13 : decode cX0_init 13 = .ok (.aload_n 0, 1) := by decide +kernel
theorem dX0_init_14 : decode cX0_init 14 = .ok (.new 17, 3) := by decide +kernel
theorem dX0_init_17 : decode cX0_init 17 = .ok (.dup, 1) := by decide +kernel
theorem dX0_init_18 : decode cX0_init 18 = .ok (.invokespecial 19, 3) := by decide +kernel
theorem dX0_init_21 : decode cX0_init 21 = .ok (.putfield 20, 3) := by decide +kernel
theorem dX0_init_24 : decode cX0_init 24 = .ok (.iconst 0, 1) := by decide +kernel
theorem dX0_init_25 : decode cX0_init 25 = .ok (.istore_n 1, 1) := by decide +kernel
theorem dX0_init_26 : decode cX0_init 26 = .ok (.iload_n 1, 1) := by decide +kernel
theorem dX0_init_27 : decode cX0_init 27 = .ok (.bipush 6, 2) := by decide +kernel
theorem dX0_init_29 : decode cX0_init 29 = .ok (.if_icmp .ge 22, 3) := by decide +kernel
theorem dX0_init_32 : decode cX0_init 32 = .ok (.aload_n 0, 1) := by decide +kernel
theorem dX0_init_33 : decode cX0_init 33 = .ok (.getfield 11, 3) := by decide +kernel
theorem dX0_init_36 : decode cX0_init 36 = .ok (.iload_n 1, 1) := by decide +kernel
theorem dX0_init_37 : decode cX0_init 37 = .ok (.new 9, 3) := by decide +kernel
theorem dX0_init_40 : decode cX0_init 40 = .ok (.dup, 1) := by decide +kernel
theorem dX0_init_41 : decode cX0_init 41 = .ok (.invokespecial 24, 3) := by decide +kernel
theorem dX0_init_44 : decode cX0_init 44 = .ok (.aastore, 1) := by decide +kernel
theorem dX0_init_45 : decode cX0_init 45 = .ok (.iinc 1 1, 3) := by decide +kernel
theorem dX0_init_48 : decode cX0_init 48 = .ok (.goto (-22), 3) := by decide +kernel
theorem dX0_init_51 : decode cX0_init 51 = .ok (.return_, 1) := by decide +kernel
theorem dX0_clear_0 : decode cX0_clear 0 = .ok (.aload_n 0, 1) := by decide +kernel
theorem dX0_clear_1 : decode cX0_clear 1 = .ok (.iconst 0, 1) := by decide +kernel
theorem dX0_clear_2 : decode cX0_clear 2 = .ok (.putfield 25, 3) := by decide +kernel
theorem dX0_clear_5 : decode cX0_clear 5 = .ok (.aload_n 0, 1) := by decide +kernel
theorem dX0_clear_6 : decode cX0_clear 6 = .ok (.iconst 0, 1) := by decide +kernel
theorem dX0_clear_7 : decode cX0_clear 7 = .ok (.putfield 29, 3) := by decide +kernel
theorem dX0_clear_10 : decode cX0_clear 10 = .ok (.aload_n 0, 1) := by decide +kernel
theorem dX0_clear_11 : decode cX0_clear 11 = .ok (.getfield 20, 3) := by decide +kernel
theorem dX0_clear_14 : decode cX0_clear 14 = .ok (.invokevirtual 32, 3) := by decide +kernel
theorem dX0_clear_17 : decode cX0_clear 17 = .ok (.return_, 1) := by decide +kernel
theorem dX0_ruleAt_0 : decode cX0_ruleAt 0 = .ok (.aload_n 0, 1) := by decide +kernel
theorem dX0_ruleAt_1 : decode cX0_ruleAt 1 = .ok (.getfield 11, 3) := by decide +kernel
theorem dX0_ruleAt_4 : decode cX0_ruleAt 4 = .ok (.iconst 0, 1) := by decide +kernel
theorem dX0_ruleAt_5 : decode cX0_ruleAt 5 = .ok (.iload_n 1, 1) := by decide +kernel
theorem dX0_ruleAt_6 : decode cX0_ruleAt 6 = .ok (.iconst 5, 1) := by decide +kernel
theorem dX0_ruleAt_7 : decode cX0_ruleAt 7 = .ok (.invokestatic 35, 3) := by decide +kernel
theorem dX0_ruleAt_10 : decode cX0_ruleAt 10 = .ok (.invokestatic 41, 3) := by decide +kernel
theorem dX0_ruleAt_13 : decode cX0_ruleAt 13 = .ok (.aaload, 1) := by decide +kernel
theorem dX0_ruleAt_14 : decode cX0_ruleAt 14 = .ok (.areturn, 1) := by decide +kernel
theorem dX0_ruleOfHeap_0 : decode cX0_ruleOfHeap 0 = .ok (.aload_n 0, 1) := by decide +kernel
theorem dX0_ruleOfHeap_1 : decode cX0_ruleOfHeap 1 = .ok (.aload_n 0, 1) := by decide +kernel
theorem dX0_ruleOfHeap_2 : decode cX0_ruleOfHeap 2 = .ok (.getfield 20, 3) := by decide +kernel
theorem dX0_ruleOfHeap_5 : decode cX0_ruleOfHeap 5 = .ok (.getfield 44, 3) := by decide +kernel
theorem dX0_ruleOfHeap_8 : decode cX0_ruleOfHeap 8 = .ok (.iload_n 1, 1) := by decide +kernel
theorem dX0_ruleOfHeap_9 : decode cX0_ruleOfHeap 9 = .ok (.invokestatic 47, 3) := by decide +kernel
theorem dX0_ruleOfHeap_12 : decode cX0_ruleOfHeap 12 = .ok (.invokevirtual 50, 3) := by decide +kernel
theorem dX0_ruleOfHeap_15 : decode cX0_ruleOfHeap 15 = .ok (.areturn, 1) := by decide +kernel
theorem dX0_ruleNamed_0 : decode cX0_ruleNamed 0 = .ok (.iconst 0, 1) := by decide +kernel
theorem dX0_ruleNamed_1 : decode cX0_ruleNamed 1 = .ok (.istore_n 3, 1) := by decide +kernel
theorem dX0_ruleNamed_2 : decode cX0_ruleNamed 2 = .ok (.iload_n 3, 1) := by decide +kernel
theorem dX0_ruleNamed_3 : decode cX0_ruleNamed 3 = .ok (.aload_n 0, 1) := by decide +kernel
theorem dX0_ruleNamed_4 : decode cX0_ruleNamed 4 = .ok (.getfield 25, 3) := by decide +kernel
theorem dX0_ruleNamed_7 : decode cX0_ruleNamed 7 = .ok (.if_icmp .ge 24, 3) := by decide +kernel
theorem dX0_ruleNamed_10 : decode cX0_ruleNamed 10 = .ok (.aload_n 0, 1) := by decide +kernel
theorem dX0_ruleNamed_11 : decode cX0_ruleNamed 11 = .ok (.iload_n 3, 1) := by decide +kernel
theorem dX0_ruleNamed_12 : decode cX0_ruleNamed 12 = .ok (.invokevirtual 50, 3) := by decide +kernel
theorem dX0_ruleNamed_15 : decode cX0_ruleNamed 15 = .ok (.getfield 54, 3) := by decide +kernel
theorem dX0_ruleNamed_18 : decode cX0_ruleNamed 18 = .ok (.lload_n 1, 1) := by decide +kernel
theorem dX0_ruleNamed_19 : decode cX0_ruleNamed 19 = .ok (.lcmp, 1) := by decide +kernel
theorem dX0_ruleNamed_20 : decode cX0_ruleNamed 20 = .ok (.ifCond .ne 5, 3) := by decide +kernel
theorem dX0_ruleNamed_23 : decode cX0_ruleNamed 23 = .ok (.iload_n 3, 1) := by decide +kernel
theorem dX0_ruleNamed_24 : decode cX0_ruleNamed 24 = .ok (.ireturn, 1) := by decide +kernel
theorem dX0_ruleNamed_25 : decode cX0_ruleNamed 25 = .ok (.iinc 3 1, 3) := by decide +kernel
theorem dX0_ruleNamed_28 : decode cX0_ruleNamed 28 = .ok (.goto (-26), 3) := by decide +kernel
theorem dX0_ruleNamed_31 : decode cX0_ruleNamed 31 = .ok (.iconst (-1), 1) := by decide +kernel
theorem dX0_ruleNamed_32 : decode cX0_ruleNamed 32 = .ok (.ireturn, 1) := by decide +kernel
theorem dX0_addRule_0 : decode cX0_addRule 0 = .ok (.aload_n 0, 1) := by decide +kernel
theorem dX0_addRule_1 : decode cX0_addRule 1 = .ok (.aload_n 0, 1) := by decide +kernel
theorem dX0_addRule_2 : decode cX0_addRule 2 = .ok (.getfield 25, 3) := by decide +kernel
theorem dX0_addRule_5 : decode cX0_addRule 5 = .ok (.invokevirtual 50, 3) := by decide +kernel
theorem dX0_addRule_8 : decode cX0_addRule 8 = .ok (.astore 6, 2) := by decide +kernel
theorem dX0_addRule_10 : decode cX0_addRule 10 = .ok (.aload 6, 2) := by decide +kernel
theorem dX0_addRule_12 : decode cX0_addRule 12 = .ok (.lload_n 1, 1) := by decide +kernel
theorem dX0_addRule_13 : decode cX0_addRule 13 = .ok (.putfield 54, 3) := by decide +kernel
theorem dX0_addRule_16 : decode cX0_addRule 16 = .ok (.aload 6, 2) := by decide +kernel
theorem dX0_addRule_18 : decode cX0_addRule 18 = .ok (.iload_n 3, 1) := by decide +kernel
theorem dX0_addRule_19 : decode cX0_addRule 19 = .ok (.putfield 58, 3) := by decide +kernel
theorem dX0_addRule_22 : decode cX0_addRule 22 = .ok (.aload 6, 2) := by decide +kernel
theorem dX0_addRule_24 : decode cX0_addRule 24 = .ok (.lload 4, 2) := by decide +kernel
theorem dX0_addRule_26 : decode cX0_addRule 26 = .ok (.putfield 61, 3) := by decide +kernel
theorem dX0_addRule_29 : decode cX0_addRule 29 = .ok (.aload_n 0, 1) := by decide +kernel
theorem dX0_addRule_30 : decode cX0_addRule 30 = .ok (.dup, 1) := by decide +kernel
theorem dX0_addRule_31 : decode cX0_addRule 31 = .ok (.getfield 25, 3) := by decide +kernel
theorem dX0_addRule_34 : decode cX0_addRule 34 = .ok (.iconst 1, 1) := by decide +kernel
theorem dX0_addRule_35 : decode cX0_addRule 35 = .ok (.iadd, 1) := by decide +kernel
theorem dX0_addRule_36 : decode cX0_addRule 36 = .ok (.putfield 25, 3) := by decide +kernel
theorem dX0_addRule_39 : decode cX0_addRule 39 = .ok (.return_, 1) := by decide +kernel
theorem dX0_fillValues_0 : decode cX0_fillValues 0 = .ok (.iconst 0, 1) := by decide +kernel
theorem dX0_fillValues_1 : decode cX0_fillValues 1 = .ok (.istore_n 1, 1) := by decide +kernel
theorem dX0_fillValues_2 : decode cX0_fillValues 2 = .ok (.iload_n 1, 1) := by decide +kernel
theorem dX0_fillValues_3 : decode cX0_fillValues 3 = .ok (.aload_n 0, 1) := by decide +kernel
theorem dX0_fillValues_4 : decode cX0_fillValues 4 = .ok (.getfield 25, 3) := by decide +kernel
theorem dX0_fillValues_7 : decode cX0_fillValues 7 = .ok (.if_icmp .ge 17, 3) := by decide +kernel
theorem dX0_fillValues_10 : decode cX0_fillValues 10 = .ok (.aload_n 0, 1) := by decide +kernel
theorem dX0_fillValues_11 : decode cX0_fillValues 11 = .ok (.iload_n 1, 1) := by decide +kernel
theorem dX0_fillValues_12 : decode cX0_fillValues 12 = .ok (.invokevirtual 50, 3) := by decide +kernel
theorem dX0_fillValues_15 : decode cX0_fillValues 15 = .ok (.invokevirtual 64, 3) := by decide +kernel
theorem dX0_fillValues_18 : decode cX0_fillValues 18 = .ok (.iinc 1 1, 3) := by decide +kernel
theorem dX0_fillValues_21 : decode cX0_fillValues 21 = .ok (.goto (-19), 3) := by decide +kernel
theorem dX0_fillValues_24 : decode cX0_fillValues 24 = .ok (.return_, 1) := by decide +kernel
theorem dX1_init_0 : decode cX1_init 0 = .ok (.aload_n 0, 1) := by decide +kernel
theorem dX1_init_1 : decode cX1_init 1 = .ok (.invokespecial 3, 3) := by decide +kernel
theorem dX1_init_4 : decode cX1_init 4 = .ok (.aload_n 0, 1) := by decide +kernel
theorem dX1_init_5 : decode cX1_init 5 = .ok (.bipush 10, 2) := by decide +kernel
theorem dX1_init_7 : decode cX1_init 7 = .ok (.anewarray 9, 3) := by decide +kernel
theorem dX1_init_10 : decode cX1_init 10 = .ok (.putfield 11, 3) := by decide +kernel
theorem dX1_init_13 : decode cX1_init 13 = .ok (.aload_n 0, 1) := by decide +kernel
theorem dX1_init_14 : decode cX1_init 14 = .ok (.iconst 0, 1) := by decide +kernel
theorem dX1_init_15 : decode cX1_init 15 = .ok (.putfield 17, 3) := by decide +kernel
theorem dX1_init_18 : decode cX1_init 18 = .ok (.aload_n 0, 1) := by decide +kernel
theorem dX1_init_19 : decode cX1_init 19 = .ok (.iconst 0, 1) := by decide +kernel
theorem dX1_init_20 : decode cX1_init 20 = .ok (.putfield 21, 3) := by decide +kernel
theorem dX1_init_23 : decode cX1_init 23 = .ok (.iconst 0, 1) := by decide +kernel
theorem dX1_init_24 : decode cX1_init 24 = .ok (.istore_n 1, 1) := by decide +kernel
theorem dX1_init_25 : decode cX1_init 25 = .ok (.iload_n 1, 1) := by decide +kernel
theorem dX1_init_26 : decode cX1_init 26 = .ok (.bipush 10, 2) := by decide +kernel
theorem dX1_init_28 : decode cX1_init 28 = .ok (.if_icmp .ge 22, 3) := by decide +kernel
theorem dX1_init_31 : decode cX1_init 31 = .ok (.aload_n 0, 1) := by decide +kernel
theorem dX1_init_32 : decode cX1_init 32 = .ok (.getfield 11, 3) := by decide +kernel
theorem dX1_init_35 : decode cX1_init 35 = .ok (.iload_n 1, 1) := by decide +kernel
theorem dX1_init_36 : decode cX1_init 36 = .ok (.new 9, 3) := by decide +kernel
theorem dX1_init_39 : decode cX1_init 39 = .ok (.dup, 1) := by decide +kernel
theorem dX1_init_40 : decode cX1_init 40 = .ok (.invokespecial 24, 3) := by decide +kernel
theorem dX1_init_43 : decode cX1_init 43 = .ok (.aastore, 1) := by decide +kernel
theorem dX1_init_44 : decode cX1_init 44 = .ok (.iinc 1 1, 3) := by decide +kernel
theorem dX1_init_47 : decode cX1_init 47 = .ok (.goto (-22), 3) := by decide +kernel
theorem dX1_init_50 : decode cX1_init 50 = .ok (.return_, 1) := by decide +kernel
theorem dX1_clear_0 : decode cX1_clear 0 = .ok (.aload_n 0, 1) := by decide +kernel
theorem dX1_clear_1 : decode cX1_clear 1 = .ok (.iconst 0, 1) := by decide +kernel
theorem dX1_clear_2 : decode cX1_clear 2 = .ok (.putfield 21, 3) := by decide +kernel
theorem dX1_clear_5 : decode cX1_clear 5 = .ok (.return_, 1) := by decide +kernel
theorem dX1_remember_0 : decode cX1_remember 0 = .ok (.aload_n 0, 1) := by decide +kernel
theorem dX1_remember_1 : decode cX1_remember 1 = .ok (.aload_n 0, 1) := by decide +kernel
theorem dX1_remember_2 : decode cX1_remember 2 = .ok (.getfield 17, 3) := by decide +kernel
theorem dX1_remember_5 : decode cX1_remember 5 = .ok (.invokevirtual 25, 3) := by decide +kernel
theorem dX1_remember_8 : decode cX1_remember 8 = .ok (.aload_n 1, 1) := by decide +kernel
theorem dX1_remember_9 : decode cX1_remember 9 = .ok (.invokevirtual 29, 3) := by decide +kernel
theorem dX1_remember_12 : decode cX1_remember 12 = .ok (.aload_n 0, 1) := by decide +kernel
theorem dX1_remember_13 : decode cX1_remember 13 = .ok (.aload_n 0, 1) := by decide +kernel
theorem dX1_remember_14 : decode cX1_remember 14 = .ok (.getfield 17, 3) := by decide +kernel
theorem dX1_remember_17 : decode cX1_remember 17 = .ok (.iconst 1, 1) := by decide +kernel
theorem dX1_remember_18 : decode cX1_remember 18 = .ok (.iadd, 1) := by decide +kernel
theorem dX1_remember_19 : decode cX1_remember 19 = .ok (.bipush 10, 2) := by decide +kernel
theorem dX1_remember_21 : decode cX1_remember 21 = .ok (.irem, 1) := by decide +kernel
theorem dX1_remember_22 : decode cX1_remember 22 = .ok (.putfield 17, 3) := by decide +kernel
theorem dX1_remember_25 : decode cX1_remember 25 = .ok (.aload_n 0, 1) := by decide +kernel
theorem dX1_remember_26 : decode cX1_remember 26 = .ok (.aload_n 0, 1) := by decide +kernel
theorem dX1_remember_27 : decode cX1_remember 27 = .ok (.getfield 21, 3) := by decide +kernel
theorem dX1_remember_30 : decode cX1_remember 30 = .ok (.iconst 1, 1) := by decide +kernel
theorem dX1_remember_31 : decode cX1_remember 31 = .ok (.iadd, 1) := by decide +kernel
theorem dX1_remember_32 : decode cX1_remember 32 = .ok (.bipush 10, 2) := by decide +kernel
theorem dX1_remember_34 : decode cX1_remember 34 = .ok (.invokestatic 33, 3) := by decide +kernel
theorem dX1_remember_37 : decode cX1_remember 37 = .ok (.putfield 21, 3) := by decide +kernel
theorem dX1_remember_40 : decode cX1_remember 40 = .ok (.return_, 1) := by decide +kernel
theorem dX1_goBack_0 : decode cX1_goBack 0 = .ok (.aload_n 0, 1) := by decide +kernel
theorem dX1_goBack_1 : decode cX1_goBack 1 = .ok (.aload_n 0, 1) := by decide +kernel
theorem dX1_goBack_2 : decode cX1_goBack 2 = .ok (.getfield 17, 3) := by decide +kernel
theorem dX1_goBack_5 : decode cX1_goBack 5 = .ok (.bipush 10, 2) := by decide +kernel
theorem dX1_goBack_7 : decode cX1_goBack 7 = .ok (.iadd, 1) := by decide +kernel
theorem dX1_goBack_8 : decode cX1_goBack 8 = .ok (.iconst 1, 1) := by decide +kernel
theorem dX1_goBack_9 : decode cX1_goBack 9 = .ok (.isub, 1) := by decide +kernel
theorem dX1_goBack_10 : decode cX1_goBack 10 = .ok (.bipush 10, 2) := by decide +kernel
theorem dX1_goBack_12 : decode cX1_goBack 12 = .ok (.irem, 1) := by decide +kernel
theorem dX1_goBack_13 : decode cX1_goBack 13 = .ok (.putfield 17, 3) := by decide +kernel
theorem dX1_goBack_16 : decode cX1_goBack 16 = .ok (.aload_n 0, 1) := by decide +kernel
theorem dX1_goBack_17 : decode cX1_goBack 17 = .ok (.dup, 1) := by decide +kernel
theorem dX1_goBack_18 : decode cX1_goBack 18 = .ok (.getfield 21, 3) := by decide +kernel
theorem dX1_goBack_21 : decode cX1_goBack 21 = .ok (.iconst 1, 1) := by decide +kernel
theorem dX1_goBack_22 : decode cX1_goBack 22 = .ok (.isub, 1) := by decide +kernel
theorem dX1_goBack_23 : decode cX1_goBack 23 = .ok (.putfield 21, 3) := by decide +kernel
theorem dX1_goBack_26 : decode cX1_goBack 26 = .ok (.aload_n 1, 1) := by decide +kernel
theorem dX1_goBack_27 : decode cX1_goBack 27 = .ok (.aload_n 0, 1) := by decide +kernel
theorem dX1_goBack_28 : decode cX1_goBack 28 = .ok (.aload_n 0, 1) := by decide +kernel
theorem dX1_goBack_29 : decode cX1_goBack 29 = .ok (.getfield 17, 3) := by decide +kernel
theorem dX1_goBack_32 : decode cX1_goBack 32 = .ok (.invokevirtual 25, 3) := by decide +kernel
theorem dX1_goBack_35 : decode cX1_goBack 35 = .ok (.invokevirtual 29, 3) := by decide +kernel
theorem dX1_goBack_38 : decode cX1_goBack 38 = .ok (.return_, 1) := by decide +kernel
theorem dX1_stateAt_0 : decode cX1_stateAt 0 = .ok (.aload_n 0, 1) := by decide +kernel
theorem dX1_stateAt_1 : decode cX1_stateAt 1 = .ok (.getfield 11, 3) := by decide +kernel
theorem dX1_stateAt_4 : decode cX1_stateAt 4 = .ok (.iconst 0, 1) := by decide +kernel
theorem dX1_stateAt_5 : decode cX1_stateAt 5 = .ok (.iload_n 1, 1) := by decide +kernel
theorem dX1_stateAt_6 : decode cX1_stateAt 6 = .ok (.bipush 9, 2) := by decide +kernel
theorem dX1_stateAt_8 : decode cX1_stateAt 8 = .ok (.invokestatic 33, 3) := by decide +kernel
theorem dX1_stateAt_11 : decode cX1_stateAt 11 = .ok (.invokestatic 39, 3) := by decide +kernel
theorem dX1_stateAt_14 : decode cX1_stateAt 14 = .ok (.aaload, 1) := by decide +kernel
theorem dX1_stateAt_15 : decode cX1_stateAt 15 = .ok (.areturn, 1) := by decide +kernel
theorem dX2_init_0 : decode cX2_init 0 = .ok (.aload_n 0, 1) := by decide +kernel
theorem dX2_init_1 : decode cX2_init 1 = .ok (.invokespecial 3, 3) := by decide +kernel
theorem dX2_init_4 : decode cX2_init 4 = .ok (.aload_n 0, 1) := by decide +kernel
theorem dX2_init_5 : decode cX2_init 5 = .ok (.sipush 301, 3) := by decide +kernel
theorem dX2_init_8 : decode cX2_init 8 = .ok (.newarray .int, 2) := by decide +kernel
theorem dX2_init_10 : decode cX2_init 10 = .ok (.putfield 9, 3) := by decide +kernel
theorem dX2_init_13 : decode cX2_init 13 = .ok (.aload_n 0, 1) := by decide +kernel
theorem dX2_init_14 : decode cX2_init 14 = .ok (.sipush 301, 3) := by decide +kernel
theorem dX2_init_17 : decode cX2_init 17 = .ok (.newarray .int, 2) := by decide +kernel
theorem dX2_init_19 : decode cX2_init 19 = .ok (.putfield 15, 3) := by decide +kernel
theorem dX2_init_22 : decode cX2_init 22 = .ok (.return_, 1) := by decide +kernel
theorem dX2_allows_0 : decode cX2_allows 0 = .ok (.iload_n 2, 1) := by decide +kernel
theorem dX2_allows_1 : decode cX2_allows 1 = .ok (.iconst 1, 1) := by decide +kernel
theorem dX2_allows_2 : decode cX2_allows 2 = .ok (.if_icmp .lt 8, 3) := by decide +kernel
theorem dX2_allows_5 : decode cX2_allows 5 = .ok (.iload_n 2, 1) := by decide +kernel
theorem dX2_allows_6 : decode cX2_allows 6 = .ok (.iload_n 1, 1) := by decide +kernel
theorem dX2_allows_7 : decode cX2_allows 7 = .ok (.if_icmp .le 5, 3) := by decide +kernel
theorem dX2_allows_10 : decode cX2_allows 10 = .ok (.iconst 0, 1) := by decide +kernel
theorem dX2_allows_11 : decode cX2_allows 11 = .ok (.ireturn, 1) := by decide +kernel
theorem dX2_allows_12 : decode cX2_allows 12 = .ok (.aload_n 0, 1) := by decide +kernel
theorem dX2_allows_13 : decode cX2_allows 13 = .ok (.getfield 18, 3) := by decide +kernel
theorem dX2_allows_16 : decode cX2_allows 16 = .ok (.tableswitch 101 0 3 #[32, 57, 74, 87], 32) := by decide +kernel
theorem dX2_allows_48 : decode cX2_allows 48 = .ok (.iload_n 2, 1) := by decide +kernel
theorem dX2_allows_49 : decode cX2_allows 49 = .ok (.bipush 60, 2) := by decide +kernel
theorem dX2_allows_51 : decode cX2_allows 51 = .ok (.if_icmp .gt 20, 3) := by decide +kernel
theorem dX2_allows_54 : decode cX2_allows 54 = .ok (.aload_n 0, 1) := by decide +kernel
theorem dX2_allows_55 : decode cX2_allows 55 = .ok (.getfield 22, 3) := by decide +kernel
theorem dX2_allows_58 : decode cX2_allows 58 = .ok (.iload_n 2, 1) := by decide +kernel
theorem dX2_allows_59 : decode cX2_allows 59 = .ok (.lshr, 1) := by decide +kernel
theorem dX2_allows_60 : decode cX2_allows 60 = .ok (.lconst 1, 1) := by decide +kernel
theorem dX2_allows_61 : decode cX2_allows 61 = .ok (.land, 1) := by decide +kernel
theorem dX2_allows_62 : decode cX2_allows 62 = .ok (.lconst 0, 1) := by decide +kernel
theorem dX2_allows_63 : decode cX2_allows 63 = .ok (.lcmp, 1) := by decide +kernel
theorem dX2_allows_64 : decode cX2_allows 64 = .ok (.ifCond .eq 7, 3) := by decide +kernel
theorem dX2_allows_67 : decode cX2_allows 67 = .ok (.iconst 1, 1) := by decide +kernel
theorem dX2_allows_68 : decode cX2_allows 68 = .ok (.goto 4, 3) := by decide +kernel
theorem dX2_allows_71 : decode cX2_allows 71 = .ok (.iconst 0, 1) := by decide +kernel
theorem dX2_allows_72 : decode cX2_allows 72 = .ok (.ireturn, 1) := by decide +kernel
theorem dX2_allows_73 : decode cX2_allows 73 = .ok (.iload_n 2, 1) := by decide +kernel
theorem dX2_allows_74 : decode cX2_allows 74 = .ok (.iload_n 1, 1) := by decide +kernel
theorem dX2_allows_75 : decode cX2_allows 75 = .ok (.if_icmp .ge 13, 3) := by decide +kernel
theorem dX2_allows_78 : decode cX2_allows 78 = .ok (.iload_n 1, 1) := by decide +kernel
theorem dX2_allows_79 : decode cX2_allows 79 = .ok (.iload_n 2, 1) := by decide +kernel
theorem dX2_allows_80 : decode cX2_allows 80 = .ok (.irem, 1) := by decide +kernel
theorem dX2_allows_81 : decode cX2_allows 81 = .ok (.ifCond .ne 7, 3) := by decide +kernel
theorem dX2_allows_84 : decode cX2_allows 84 = .ok (.iconst 1, 1) := by decide +kernel
theorem dX2_allows_85 : decode cX2_allows 85 = .ok (.goto 4, 3) := by decide +kernel
theorem dX2_allows_88 : decode cX2_allows 88 = .ok (.iconst 0, 1) := by decide +kernel
theorem dX2_allows_89 : decode cX2_allows 89 = .ok (.ireturn, 1) := by decide +kernel
theorem dX2_allows_90 : decode cX2_allows 90 = .ok (.iload_n 2, 1) := by decide +kernel
theorem dX2_allows_91 : decode cX2_allows 91 = .ok (.iload_n 1, 1) := by decide +kernel
theorem dX2_allows_92 : decode cX2_allows 92 = .ok (.iconst 2, 1) := by decide +kernel
theorem dX2_allows_93 : decode cX2_allows 93 = .ok (.idiv, 1) := by decide +kernel
theorem dX2_allows_94 : decode cX2_allows 94 = .ok (.if_icmp .gt 7, 3) := by decide +kernel
theorem dX2_allows_97 : decode cX2_allows 97 = .ok (.iconst 1, 1) := by decide +kernel
theorem dX2_allows_98 : decode cX2_allows 98 = .ok (.goto 4, 3) := by decide +kernel
theorem dX2_allows_101 : decode cX2_allows 101 = .ok (.iconst 0, 1) := by decide +kernel
theorem dX2_allows_102 : decode cX2_allows 102 = .ok (.ireturn, 1) := by decide +kernel
theorem dX2_allows_103 : decode cX2_allows 103 = .ok (.iload_n 2, 1) := by decide +kernel
theorem dX2_allows_104 : decode cX2_allows 104 = .ok (.iload_n 2, 1) := by decide +kernel
theorem dX2_allows_105 : decode cX2_allows 105 = .ok (.iconst 1, 1) := by decide +kernel
theorem dX2_allows_106 : decode cX2_allows 106 = .ok (.isub, 1) := by decide +kernel
theorem dX2_allows_107 : decode cX2_allows 107 = .ok (.iand, 1) := by decide +kernel
theorem dX2_allows_108 : decode cX2_allows 108 = .ok (.ifCond .ne 7, 3) := by decide +kernel
theorem dX2_allows_111 : decode cX2_allows 111 = .ok (.iconst 1, 1) := by decide +kernel
theorem dX2_allows_112 : decode cX2_allows 112 = .ok (.goto 4, 3) := by decide +kernel
theorem dX2_allows_115 : decode cX2_allows 115 = .ok (.iconst 0, 1) := by decide +kernel
theorem dX2_allows_116 : decode cX2_allows 116 = .ok (.ireturn, 1) := by decide +kernel
theorem dX2_allows_117 : decode cX2_allows 117 = .ok (.iload_n 2, 1) := by decide +kernel
theorem dX2_allows_118 : decode cX2_allows 118 = .ok (.invokestatic 26, 3) := by decide +kernel
theorem dX2_allows_121 : decode cX2_allows 121 = .ok (.ireturn, 1) := by decide +kernel
theorem dX2_isSquare_0 : decode cX2_isSquare 0 = .ok (.iconst 1, 1) := by decide +kernel
theorem dX2_isSquare_1 : decode cX2_isSquare 1 = .ok (.istore_n 1, 1) := by decide +kernel
theorem dX2_isSquare_2 : decode cX2_isSquare 2 = .ok (.iload_n 1, 1) := by decide +kernel
theorem dX2_isSquare_3 : decode cX2_isSquare 3 = .ok (.sipush 300, 3) := by decide +kernel
theorem dX2_isSquare_6 : decode cX2_isSquare 6 = .ok (.if_icmp .gt 25, 3) := by decide +kernel
theorem dX2_isSquare_9 : decode cX2_isSquare 9 = .ok (.iload_n 1, 1) := by decide +kernel
theorem dX2_isSquare_10 : decode cX2_isSquare 10 = .ok (.iload_n 1, 1) := by decide +kernel
theorem dX2_isSquare_11 : decode cX2_isSquare 11 = .ok (.imul, 1) := by decide +kernel
theorem dX2_isSquare_12 : decode cX2_isSquare 12 = .ok (.iload_n 0, 1) := by decide +kernel
theorem dX2_isSquare_13 : decode cX2_isSquare 13 = .ok (.if_icmp .gt 18, 3) := by decide +kernel
theorem dX2_isSquare_16 : decode cX2_isSquare 16 = .ok (.iload_n 1, 1) := by decide +kernel
theorem dX2_isSquare_17 : decode cX2_isSquare 17 = .ok (.iload_n 1, 1) := by decide +kernel
theorem dX2_isSquare_18 : decode cX2_isSquare 18 = .ok (.imul, 1) := by decide +kernel
theorem dX2_isSquare_19 : decode cX2_isSquare 19 = .ok (.iload_n 0, 1) := by decide +kernel
theorem dX2_isSquare_20 : decode cX2_isSquare 20 = .ok (.if_icmp .ne 5, 3) := by decide +kernel
theorem dX2_isSquare_23 : decode cX2_isSquare 23 = .ok (.iconst 1, 1) := by decide +kernel
theorem dX2_isSquare_24 : decode cX2_isSquare 24 = .ok (.ireturn, 1) := by decide +kernel
theorem dX2_isSquare_25 : decode cX2_isSquare 25 = .ok (.iinc 1 1, 3) := by decide +kernel
theorem dX2_isSquare_28 : decode cX2_isSquare 28 = .ok (.goto (-26), 3) := by decide +kernel
theorem dX2_isSquare_31 : decode cX2_isSquare 31 = .ok (.iconst 0, 1) := by decide +kernel
theorem dX2_isSquare_32 : decode cX2_isSquare 32 = .ok (.ireturn, 1) := by decide +kernel
theorem dX2_countAmounts_0 : decode cX2_countAmounts 0 = .ok (.iconst 0, 1) := by decide +kernel
theorem dX2_countAmounts_1 : decode cX2_countAmounts 1 = .ok (.istore_n 2, 1) := by decide +kernel
theorem dX2_countAmounts_2 : decode cX2_countAmounts 2 = .ok (.iconst 1, 1) := by decide +kernel
theorem dX2_countAmounts_3 : decode cX2_countAmounts 3 = .ok (.istore_n 3, 1) := by decide +kernel
theorem dX2_countAmounts_4 : decode cX2_countAmounts 4 = .ok (.iload_n 3, 1) := by decide +kernel
theorem dX2_countAmounts_5 : decode cX2_countAmounts 5 = .ok (.iload_n 1, 1) := by decide +kernel
theorem dX2_countAmounts_6 : decode cX2_countAmounts 6 = .ok (.if_icmp .gt 21, 3) := by decide +kernel
theorem dX2_countAmounts_9 : decode cX2_countAmounts 9 = .ok (.aload_n 0, 1) := by decide +kernel
theorem dX2_countAmounts_10 : decode cX2_countAmounts 10 = .ok (.iload_n 1, 1) := by decide +kernel
theorem dX2_countAmounts_11 : decode cX2_countAmounts 11 = .ok (.iload_n 3, 1) := by decide +kernel
theorem dX2_countAmounts_12 : decode cX2_countAmounts 12 = .ok (.invokevirtual 30, 3) := by decide +kernel
theorem dX2_countAmounts_15 : decode cX2_countAmounts 15 = .ok (.ifCond .eq 6, 3) := by decide +kernel
theorem dX2_countAmounts_18 : decode cX2_countAmounts 18 = .ok (.iinc 2 1, 3) := by decide +kernel
theorem dX2_countAmounts_21 : decode cX2_countAmounts 21 = .ok (.iinc 3 1, 3) := by decide +kernel
theorem dX2_countAmounts_24 : decode cX2_countAmounts 24 = .ok (.goto (-20), 3) := by decide +kernel
theorem dX2_countAmounts_27 : decode cX2_countAmounts 27 = .ok (.iload_n 2, 1) := by decide +kernel
theorem dX2_countAmounts_28 : decode cX2_countAmounts 28 = .ok (.ireturn, 1) := by decide +kernel
theorem dX2_greatestAmount_0 : decode cX2_greatestAmount 0 = .ok (.bipush 60, 2) := by decide +kernel
theorem dX2_greatestAmount_2 : decode cX2_greatestAmount 2 = .ok (.istore_n 1, 1) := by decide +kernel
theorem dX2_greatestAmount_3 : decode cX2_greatestAmount 3 = .ok (.iload_n 1, 1) := by decide +kernel
theorem dX2_greatestAmount_4 : decode cX2_greatestAmount 4 = .ok (.ifCond .le 24, 3) := by decide +kernel
theorem dX2_greatestAmount_7 : decode cX2_greatestAmount 7 = .ok (.aload_n 0, 1) := by decide +kernel
theorem dX2_greatestAmount_8 : decode cX2_greatestAmount 8 = .ok (.getfield 22, 3) := by decide +kernel
theorem dX2_greatestAmount_11 : decode cX2_greatestAmount 11 = .ok (.iload_n 1, 1) := by decide +kernel
theorem dX2_greatestAmount_12 : decode cX2_greatestAmount 12 = .ok (.lshr, 1) := by decide +kernel
theorem dX2_greatestAmount_13 : decode cX2_greatestAmount 13 = .ok (.lconst 1, 1) := by decide +kernel
theorem dX2_greatestAmount_14 : decode cX2_greatestAmount 14 = .ok (.land, 1) := by decide +kernel
theorem dX2_greatestAmount_15 : decode cX2_greatestAmount 15 = .ok (.lconst 0, 1) := by decide +kernel
theorem dX2_greatestAmount_16 : decode cX2_greatestAmount 16 = .ok (.lcmp, 1) := by decide +kernel
theorem dX2_greatestAmount_17 : decode cX2_greatestAmount 17 = .ok (.ifCond .eq 5, 3) := by decide +kernel
theorem dX2_greatestAmount_20 : decode cX2_greatestAmount 20 = .ok (.iload_n 1, 1) := by decide +kernel
theorem dX2_greatestAmount_21 : decode cX2_greatestAmount 21 = .ok (.ireturn, 1) := by decide +kernel
theorem dX2_greatestAmount_22 : decode cX2_greatestAmount 22 = .ok (.iinc 1 (-1), 3) := by decide +kernel
theorem dX2_greatestAmount_25 : decode cX2_greatestAmount 25 = .ok (.goto (-22), 3) := by decide +kernel
theorem dX2_greatestAmount_28 : decode cX2_greatestAmount 28 = .ok (.iconst 0, 1) := by decide +kernel
theorem dX2_greatestAmount_29 : decode cX2_greatestAmount 29 = .ok (.ireturn, 1) := by decide +kernel
theorem dX2_valueOf_0 : decode cX2_valueOf 0 = .ok (.iload_n 1, 1) := by decide +kernel
theorem dX2_valueOf_1 : decode cX2_valueOf 1 = .ok (.ifCond .lt 19, 3) := by decide +kernel
theorem dX2_valueOf_4 : decode cX2_valueOf 4 = .ok (.iload_n 1, 1) := by decide +kernel
theorem dX2_valueOf_5 : decode cX2_valueOf 5 = .ok (.sipush 300, 3) := by decide +kernel
theorem dX2_valueOf_8 : decode cX2_valueOf 8 = .ok (.if_icmp .gt 12, 3) := by decide +kernel
theorem dX2_valueOf_11 : decode cX2_valueOf 11 = .ok (.aload_n 0, 1) := by decide +kernel
theorem dX2_valueOf_12 : decode cX2_valueOf 12 = .ok (.getfield 9, 3) := by decide +kernel
theorem dX2_valueOf_15 : decode cX2_valueOf 15 = .ok (.iload_n 1, 1) := by decide +kernel
theorem dX2_valueOf_16 : decode cX2_valueOf 16 = .ok (.iaload, 1) := by decide +kernel
theorem dX2_valueOf_17 : decode cX2_valueOf 17 = .ok (.goto 4, 3) := by decide +kernel
theorem dX2_valueOf_20 : decode cX2_valueOf 20 = .ok (.iconst (-1), 1) := by decide +kernel
theorem dX2_valueOf_21 : decode cX2_valueOf 21 = .ok (.ireturn, 1) := by decide +kernel
theorem dX2_fillValues_0 : decode cX2_fillValues 0 = .ok (.aload_n 0, 1) := by decide +kernel
theorem dX2_fillValues_1 : decode cX2_fillValues 1 = .ok (.getfield 15, 3) := by decide +kernel
theorem dX2_fillValues_4 : decode cX2_fillValues 4 = .ok (.iconst (-1), 1) := by decide +kernel
theorem dX2_fillValues_5 : decode cX2_fillValues 5 = .ok (.invokestatic 34, 3) := by decide +kernel
theorem dX2_fillValues_8 : decode cX2_fillValues 8 = .ok (.iconst 0, 1) := by decide +kernel
theorem dX2_fillValues_9 : decode cX2_fillValues 9 = .ok (.istore_n 1, 1) := by decide +kernel
theorem dX2_fillValues_10 : decode cX2_fillValues 10 = .ok (.iload_n 1, 1) := by decide +kernel
theorem dX2_fillValues_11 : decode cX2_fillValues 11 = .ok (.sipush 300, 3) := by decide +kernel
theorem dX2_fillValues_14 : decode cX2_fillValues 14 = .ok (.if_icmp .gt 54, 3) := by decide +kernel
theorem dX2_fillValues_17 : decode cX2_fillValues 17 = .ok (.iconst 1, 1) := by decide +kernel
theorem dX2_fillValues_18 : decode cX2_fillValues 18 = .ok (.istore_n 2, 1) := by decide +kernel
theorem dX2_fillValues_19 : decode cX2_fillValues 19 = .ok (.iload_n 2, 1) := by decide +kernel
theorem dX2_fillValues_20 : decode cX2_fillValues 20 = .ok (.iload_n 1, 1) := by decide +kernel
theorem dX2_fillValues_21 : decode cX2_fillValues 21 = .ok (.if_icmp .gt 30, 3) := by decide +kernel
theorem dX2_fillValues_24 : decode cX2_fillValues 24 = .ok (.aload_n 0, 1) := by decide +kernel
theorem dX2_fillValues_25 : decode cX2_fillValues 25 = .ok (.iload_n 1, 1) := by decide +kernel
theorem dX2_fillValues_26 : decode cX2_fillValues 26 = .ok (.iload_n 2, 1) := by decide +kernel
theorem dX2_fillValues_27 : decode cX2_fillValues 27 = .ok (.invokevirtual 30, 3) := by decide +kernel
theorem dX2_fillValues_30 : decode cX2_fillValues 30 = .ok (.ifCond .eq 15, 3) := by decide +kernel
theorem dX2_fillValues_33 : decode cX2_fillValues 33 = .ok (.aload_n 0, 1) := by decide +kernel
theorem dX2_fillValues_34 : decode cX2_fillValues 34 = .ok (.aload_n 0, 1) := by decide +kernel
theorem dX2_fillValues_35 : decode cX2_fillValues 35 = .ok (.iload_n 1, 1) := by decide +kernel
theorem dX2_fillValues_36 : decode cX2_fillValues 36 = .ok (.iload_n 2, 1) := by decide +kernel
theorem dX2_fillValues_37 : decode cX2_fillValues 37 = .ok (.isub, 1) := by decide +kernel
theorem dX2_fillValues_38 : decode cX2_fillValues 38 = .ok (.invokevirtual 40, 3) := by decide +kernel
theorem dX2_fillValues_41 : decode cX2_fillValues 41 = .ok (.iload_n 1, 1) := by decide +kernel
theorem dX2_fillValues_42 : decode cX2_fillValues 42 = .ok (.invokevirtual 44, 3) := by decide +kernel
theorem dX2_fillValues_45 : decode cX2_fillValues 45 = .ok (.iinc 2 1, 3) := by decide +kernel
theorem dX2_fillValues_48 : decode cX2_fillValues 48 = .ok (.goto (-29), 3) := by decide +kernel
theorem dX2_fillValues_51 : decode cX2_fillValues 51 = .ok (.aload_n 0, 1) := by decide +kernel
theorem dX2_fillValues_52 : decode cX2_fillValues 52 = .ok (.getfield 9, 3) := by decide +kernel
theorem dX2_fillValues_55 : decode cX2_fillValues 55 = .ok (.iload_n 1, 1) := by decide +kernel
theorem dX2_fillValues_56 : decode cX2_fillValues 56 = .ok (.aload_n 0, 1) := by decide +kernel
theorem dX2_fillValues_57 : decode cX2_fillValues 57 = .ok (.iload_n 1, 1) := by decide +kernel
theorem dX2_fillValues_58 : decode cX2_fillValues 58 = .ok (.invokevirtual 48, 3) := by decide +kernel
theorem dX2_fillValues_61 : decode cX2_fillValues 61 = .ok (.iastore, 1) := by decide +kernel
theorem dX2_fillValues_62 : decode cX2_fillValues 62 = .ok (.iinc 1 1, 3) := by decide +kernel
theorem dX2_fillValues_65 : decode cX2_fillValues 65 = .ok (.goto (-55), 3) := by decide +kernel
theorem dX2_fillValues_68 : decode cX2_fillValues 68 = .ok (.return_, 1) := by decide +kernel
theorem dX2_noteValue_0 : decode cX2_noteValue 0 = .ok (.iload_n 1, 1) := by decide +kernel
theorem dX2_noteValue_1 : decode cX2_noteValue 1 = .ok (.ifCond .lt 19, 3) := by decide +kernel
theorem dX2_noteValue_4 : decode cX2_noteValue 4 = .ok (.iload_n 1, 1) := by decide +kernel
theorem dX2_noteValue_5 : decode cX2_noteValue 5 = .ok (.aload_n 0, 1) := by decide +kernel
theorem dX2_noteValue_6 : decode cX2_noteValue 6 = .ok (.getfield 15, 3) := by decide +kernel
theorem dX2_noteValue_9 : decode cX2_noteValue 9 = .ok (.arraylength, 1) := by decide +kernel
theorem dX2_noteValue_10 : decode cX2_noteValue 10 = .ok (.if_icmp .ge 10, 3) := by decide +kernel
theorem dX2_noteValue_13 : decode cX2_noteValue 13 = .ok (.aload_n 0, 1) := by decide +kernel
theorem dX2_noteValue_14 : decode cX2_noteValue 14 = .ok (.getfield 15, 3) := by decide +kernel
theorem dX2_noteValue_17 : decode cX2_noteValue 17 = .ok (.iload_n 1, 1) := by decide +kernel
theorem dX2_noteValue_18 : decode cX2_noteValue 18 = .ok (.iload_n 2, 1) := by decide +kernel
theorem dX2_noteValue_19 : decode cX2_noteValue 19 = .ok (.iastore, 1) := by decide +kernel
theorem dX2_noteValue_20 : decode cX2_noteValue 20 = .ok (.return_, 1) := by decide +kernel
theorem dX2_leastWithout_0 : decode cX2_leastWithout 0 = .ok (.iconst 0, 1) := by decide +kernel
theorem dX2_leastWithout_1 : decode cX2_leastWithout 1 = .ok (.istore_n 2, 1) := by decide +kernel
theorem dX2_leastWithout_2 : decode cX2_leastWithout 2 = .ok (.iload_n 2, 1) := by decide +kernel
theorem dX2_leastWithout_3 : decode cX2_leastWithout 3 = .ok (.aload_n 0, 1) := by decide +kernel
theorem dX2_leastWithout_4 : decode cX2_leastWithout 4 = .ok (.getfield 15, 3) := by decide +kernel
theorem dX2_leastWithout_7 : decode cX2_leastWithout 7 = .ok (.arraylength, 1) := by decide +kernel
theorem dX2_leastWithout_8 : decode cX2_leastWithout 8 = .ok (.if_icmp .ge 19, 3) := by decide +kernel
theorem dX2_leastWithout_11 : decode cX2_leastWithout 11 = .ok (.aload_n 0, 1) := by decide +kernel
theorem dX2_leastWithout_12 : decode cX2_leastWithout 12 = .ok (.getfield 15, 3) := by decide +kernel
theorem dX2_leastWithout_15 : decode cX2_leastWithout 15 = .ok (.iload_n 2, 1) := by decide +kernel
theorem dX2_leastWithout_16 : decode cX2_leastWithout 16 = .ok (.iaload, 1) := by decide +kernel
theorem dX2_leastWithout_17 : decode cX2_leastWithout 17 = .ok (.iload_n 1, 1) := by decide +kernel
theorem dX2_leastWithout_18 : decode cX2_leastWithout 18 = .ok (.if_icmp .ne 9, 3) := by decide +kernel
theorem dX2_leastWithout_21 : decode cX2_leastWithout 21 = .ok (.iinc 2 1, 3) := by decide +kernel
theorem dX2_leastWithout_24 : decode cX2_leastWithout 24 = .ok (.goto (-22), 3) := by decide +kernel
theorem dX2_leastWithout_27 : decode cX2_leastWithout 27 = .ok (.iload_n 2, 1) := by decide +kernel
theorem dX2_leastWithout_28 : decode cX2_leastWithout 28 = .ok (.ireturn, 1) := by decide +kernel
theorem dX2_periodUpTo_0 : decode cX2_periodUpTo 0 = .ok (.iconst 1, 1) := by decide +kernel
theorem dX2_periodUpTo_1 : decode cX2_periodUpTo 1 = .ok (.istore_n 2, 1) := by decide +kernel
theorem dX2_periodUpTo_2 : decode cX2_periodUpTo 2 = .ok (.iconst 2, 1) := by decide +kernel
theorem dX2_periodUpTo_3 : decode cX2_periodUpTo 3 = .ok (.iload_n 2, 1) := by decide +kernel
theorem dX2_periodUpTo_4 : decode cX2_periodUpTo 4 = .ok (.imul, 1) := by decide +kernel
theorem dX2_periodUpTo_5 : decode cX2_periodUpTo 5 = .ok (.iload_n 1, 1) := by decide +kernel
theorem dX2_periodUpTo_6 : decode cX2_periodUpTo 6 = .ok (.iconst 1, 1) := by decide +kernel
theorem dX2_periodUpTo_7 : decode cX2_periodUpTo 7 = .ok (.iadd, 1) := by decide +kernel
theorem dX2_periodUpTo_8 : decode cX2_periodUpTo 8 = .ok (.if_icmp .gt 27, 3) := by decide +kernel
theorem dX2_periodUpTo_11 : decode cX2_periodUpTo 11 = .ok (.aload_n 0, 1) := by decide +kernel
theorem dX2_periodUpTo_12 : decode cX2_periodUpTo 12 = .ok (.iload_n 2, 1) := by decide +kernel
theorem dX2_periodUpTo_13 : decode cX2_periodUpTo 13 = .ok (.iload_n 1, 1) := by decide +kernel
theorem dX2_periodUpTo_14 : decode cX2_periodUpTo 14 = .ok (.invokevirtual 51, 3) := by decide +kernel
theorem dX2_periodUpTo_17 : decode cX2_periodUpTo 17 = .ok (.iconst 2, 1) := by decide +kernel
theorem dX2_periodUpTo_18 : decode cX2_periodUpTo 18 = .ok (.iload_n 2, 1) := by decide +kernel
theorem dX2_periodUpTo_19 : decode cX2_periodUpTo 19 = .ok (.imul, 1) := by decide +kernel
theorem dX2_periodUpTo_20 : decode cX2_periodUpTo 20 = .ok (.iadd, 1) := by decide +kernel
theorem dX2_periodUpTo_21 : decode cX2_periodUpTo 21 = .ok (.iload_n 1, 1) := by decide +kernel
theorem dX2_periodUpTo_22 : decode cX2_periodUpTo 22 = .ok (.iconst 1, 1) := by decide +kernel
theorem dX2_periodUpTo_23 : decode cX2_periodUpTo 23 = .ok (.iadd, 1) := by decide +kernel
theorem dX2_periodUpTo_24 : decode cX2_periodUpTo 24 = .ok (.if_icmp .gt 5, 3) := by decide +kernel
theorem dX2_periodUpTo_27 : decode cX2_periodUpTo 27 = .ok (.iload_n 2, 1) := by decide +kernel
theorem dX2_periodUpTo_28 : decode cX2_periodUpTo 28 = .ok (.ireturn, 1) := by decide +kernel
theorem dX2_periodUpTo_29 : decode cX2_periodUpTo 29 = .ok (.iinc 2 1, 3) := by decide +kernel
theorem dX2_periodUpTo_32 : decode cX2_periodUpTo 32 = .ok (.goto (-30), 3) := by decide +kernel
theorem dX2_periodUpTo_35 : decode cX2_periodUpTo 35 = .ok (.iconst (-1), 1) := by decide +kernel
theorem dX2_periodUpTo_36 : decode cX2_periodUpTo 36 = .ok (.ireturn, 1) := by decide +kernel
theorem dX2_startOfStep_0 : decode cX2_startOfStep 0 = .ok (.iload_n 2, 1) := by decide +kernel
theorem dX2_startOfStep_1 : decode cX2_startOfStep 1 = .ok (.iload_n 1, 1) := by decide +kernel
theorem dX2_startOfStep_2 : decode cX2_startOfStep 2 = .ok (.isub, 1) := by decide +kernel
theorem dX2_startOfStep_3 : decode cX2_startOfStep 3 = .ok (.iconst 1, 1) := by decide +kernel
theorem dX2_startOfStep_4 : decode cX2_startOfStep 4 = .ok (.iadd, 1) := by decide +kernel
theorem dX2_startOfStep_5 : decode cX2_startOfStep 5 = .ok (.istore_n 3, 1) := by decide +kernel
theorem dX2_startOfStep_6 : decode cX2_startOfStep 6 = .ok (.iload_n 3, 1) := by decide +kernel
theorem dX2_startOfStep_7 : decode cX2_startOfStep 7 = .ok (.ifCond .le 28, 3) := by decide +kernel
theorem dX2_startOfStep_10 : decode cX2_startOfStep 10 = .ok (.aload_n 0, 1) := by decide +kernel
theorem dX2_startOfStep_11 : decode cX2_startOfStep 11 = .ok (.iload_n 3, 1) := by decide +kernel
theorem dX2_startOfStep_12 : decode cX2_startOfStep 12 = .ok (.iconst 1, 1) := by decide +kernel
theorem dX2_startOfStep_13 : decode cX2_startOfStep 13 = .ok (.isub, 1) := by decide +kernel
theorem dX2_startOfStep_14 : decode cX2_startOfStep 14 = .ok (.invokevirtual 40, 3) := by decide +kernel
theorem dX2_startOfStep_17 : decode cX2_startOfStep 17 = .ok (.aload_n 0, 1) := by decide +kernel
theorem dX2_startOfStep_18 : decode cX2_startOfStep 18 = .ok (.iload_n 3, 1) := by decide +kernel
theorem dX2_startOfStep_19 : decode cX2_startOfStep 19 = .ok (.iconst 1, 1) := by decide +kernel
theorem dX2_startOfStep_20 : decode cX2_startOfStep 20 = .ok (.isub, 1) := by decide +kernel
theorem dX2_startOfStep_21 : decode cX2_startOfStep 21 = .ok (.iload_n 1, 1) := by decide +kernel
theorem dX2_startOfStep_22 : decode cX2_startOfStep 22 = .ok (.iadd, 1) := by decide +kernel
theorem dX2_startOfStep_23 : decode cX2_startOfStep 23 = .ok (.invokevirtual 40, 3) := by decide +kernel
theorem dX2_startOfStep_26 : decode cX2_startOfStep 26 = .ok (.if_icmp .ne 9, 3) := by decide +kernel
theorem dX2_startOfStep_29 : decode cX2_startOfStep 29 = .ok (.iinc 3 (-1), 3) := by decide +kernel
theorem dX2_startOfStep_32 : decode cX2_startOfStep 32 = .ok (.goto (-26), 3) := by decide +kernel
theorem dX2_startOfStep_35 : decode cX2_startOfStep 35 = .ok (.iload_n 3, 1) := by decide +kernel
theorem dX2_startOfStep_36 : decode cX2_startOfStep 36 = .ok (.ireturn, 1) := by decide +kernel
theorem dX3_init_0 : decode cX3_init 0 = .ok (.aload_n 0, 1) := by decide +kernel
theorem dX3_init_1 : decode cX3_init 1 = .ok (.invokespecial 3, 3) := by decide +kernel
theorem dX3_init_4 : decode cX3_init 4 = .ok (.aload_n 0, 1) := by decide +kernel
theorem dX3_init_5 : decode cX3_init 5 = .ok (.ldc 9, 2) := by decide +kernel
theorem dX3_init_7 : decode cX3_init 7 = .ok (.newarray .int, 2) := by decide +kernel
theorem dX3_init_9 : decode cX3_init 9 = .ok (.putfield 10, 3) := by decide +kernel
theorem dX3_init_12 : decode cX3_init 12 = .ok (.aload_n 0, 1) := by decide +kernel
theorem dX3_init_13 : decode cX3_init 13 = .ok (.bipush 64, 2) := by decide +kernel
theorem dX3_init_15 : decode cX3_init 15 = .ok (.newarray .int, 2) := by decide +kernel
theorem dX3_init_17 : decode cX3_init 17 = .ok (.putfield 16, 3) := by decide +kernel
theorem dX3_init_20 : decode cX3_init 20 = .ok (.aload_n 0, 1) := by decide +kernel
theorem dX3_init_21 : decode cX3_init 21 = .ok (.bipush 81, 2) := by decide +kernel
theorem dX3_init_23 : decode cX3_init 23 = .ok (.newarray .int, 2) := by decide +kernel
theorem dX3_init_25 : decode cX3_init 25 = .ok (.putfield 19, 3) := by decide +kernel
theorem dX3_init_28 : decode cX3_init 28 = .ok (.aload_n 0, 1) := by decide +kernel
theorem dX3_init_29 : decode cX3_init 29 = .ok (.iconst (-1), 1) := by decide +kernel
theorem dX3_init_30 : decode cX3_init 30 = .ok (.putfield 22, 3) := by decide +kernel
theorem dX3_init_33 : decode cX3_init 33 = .ok (.aload_n 0, 1) := by decide +kernel
theorem dX3_init_34 : decode cX3_init 34 = .ok (.iconst 0, 1) := by decide +kernel
theorem dX3_init_35 : decode cX3_init 35 = .ok (.putfield 26, 3) := by decide +kernel
theorem dX3_init_38 : decode cX3_init 38 = .ok (.return_, 1) := by decide +kernel
theorem dX3_forget_0 : decode cX3_forget 0 = .ok (.aload_n 0, 1) := by decide +kernel
theorem dX3_forget_1 : decode cX3_forget 1 = .ok (.iconst (-1), 1) := by decide +kernel
theorem dX3_forget_2 : decode cX3_forget 2 = .ok (.putfield 22, 3) := by decide +kernel
theorem dX3_forget_5 : decode cX3_forget 5 = .ok (.return_, 1) := by decide +kernel
theorem dX3_prepare_0 : decode cX3_prepare 0 = .ok (.aload_n 1, 1) := by decide +kernel
theorem dX3_prepare_1 : decode cX3_prepare 1 = .ok (.getfield 29, 3) := by decide +kernel
theorem dX3_prepare_4 : decode cX3_prepare 4 = .ok (.astore_n 2, 1) := by decide +kernel
theorem dX3_prepare_5 : decode cX3_prepare 5 = .ok (.aload_n 2, 1) := by decide +kernel
theorem dX3_prepare_6 : decode cX3_prepare 6 = .ok (.getfield 35, 3) := by decide +kernel
theorem dX3_prepare_9 : decode cX3_prepare 9 = .ok (.aload_n 2, 1) := by decide +kernel
theorem dX3_prepare_10 : decode cX3_prepare 10 = .ok (.getfield 40, 3) := by decide +kernel
theorem dX3_prepare_13 : decode cX3_prepare 13 = .ok (.bipush 16, 2) := by decide +kernel
theorem dX3_prepare_15 : decode cX3_prepare 15 = .ok (.ishl, 1) := by decide +kernel
theorem dX3_prepare_16 : decode cX3_prepare 16 = .ok (.ior, 1) := by decide +kernel
theorem dX3_prepare_17 : decode cX3_prepare 17 = .ok (.aload_n 2, 1) := by decide +kernel
theorem dX3_prepare_18 : decode cX3_prepare 18 = .ok (.getfield 43, 3) := by decide +kernel
theorem dX3_prepare_21 : decode cX3_prepare 21 = .ok (.ifCond .eq 8, 3) := by decide +kernel
theorem dX3_prepare_24 : decode cX3_prepare 24 = .ok (.ldc 47, 2) := by decide +kernel
theorem dX3_prepare_26 : decode cX3_prepare 26 = .ok (.goto 4, 3) := by decide +kernel
theorem dX3_prepare_29 : decode cX3_prepare 29 = .ok (.iconst 0, 1) := by decide +kernel
theorem dX3_prepare_30 : decode cX3_prepare 30 = .ok (.ior, 1) := by decide +kernel
theorem dX3_prepare_31 : decode cX3_prepare 31 = .ok (.istore_n 3, 1) := by decide +kernel
theorem dX3_prepare_32 : decode cX3_prepare 32 = .ok (.iload_n 3, 1) := by decide +kernel
theorem dX3_prepare_33 : decode cX3_prepare 33 = .ok (.aload_n 0, 1) := by decide +kernel
theorem dX3_prepare_34 : decode cX3_prepare 34 = .ok (.getfield 22, 3) := by decide +kernel
theorem dX3_prepare_37 : decode cX3_prepare 37 = .ok (.if_icmp .ne 4, 3) := by decide +kernel
theorem dX3_prepare_40 : decode cX3_prepare 40 = .ok (.return_, 1) := by decide +kernel
theorem dX3_prepare_41 : decode cX3_prepare 41 = .ok (.aload_n 0, 1) := by decide +kernel
theorem dX3_prepare_42 : decode cX3_prepare 42 = .ok (.iload_n 3, 1) := by decide +kernel
theorem dX3_prepare_43 : decode cX3_prepare 43 = .ok (.putfield 22, 3) := by decide +kernel
theorem dX3_prepare_46 : decode cX3_prepare 46 = .ok (.aload_n 0, 1) := by decide +kernel
theorem dX3_prepare_47 : decode cX3_prepare 47 = .ok (.dup, 1) := by decide +kernel
theorem dX3_prepare_48 : decode cX3_prepare 48 = .ok (.getfield 26, 3) := by decide +kernel
theorem dX3_prepare_51 : decode cX3_prepare 51 = .ok (.iconst 1, 1) := by decide +kernel
theorem dX3_prepare_52 : decode cX3_prepare 52 = .ok (.iadd, 1) := by decide +kernel
theorem dX3_prepare_53 : decode cX3_prepare 53 = .ok (.putfield 26, 3) := by decide +kernel
theorem dX3_prepare_56 : decode cX3_prepare 56 = .ok (.aload_n 0, 1) := by decide +kernel
theorem dX3_prepare_57 : decode cX3_prepare 57 = .ok (.aload_n 2, 1) := by decide +kernel
theorem dX3_prepare_58 : decode cX3_prepare 58 = .ok (.getfield 40, 3) := by decide +kernel
theorem dX3_prepare_61 : decode cX3_prepare 61 = .ok (.putfield 48, 3) := by decide +kernel
theorem dX3_prepare_64 : decode cX3_prepare 64 = .ok (.aload_n 0, 1) := by decide +kernel
theorem dX3_prepare_65 : decode cX3_prepare 65 = .ok (.aload_n 1, 1) := by decide +kernel
theorem dX3_prepare_66 : decode cX3_prepare 66 = .ok (.getfield 49, 3) := by decide +kernel
theorem dX3_prepare_69 : decode cX3_prepare 69 = .ok (.putfield 52, 3) := by decide +kernel
theorem dX3_prepare_72 : decode cX3_prepare 72 = .ok (.aload_n 0, 1) := by decide +kernel
theorem dX3_prepare_73 : decode cX3_prepare 73 = .ok (.aload_n 2, 1) := by decide +kernel
theorem dX3_prepare_74 : decode cX3_prepare 74 = .ok (.getfield 43, 3) := by decide +kernel
theorem dX3_prepare_77 : decode cX3_prepare 77 = .ok (.putfield 53, 3) := by decide +kernel
theorem dX3_prepare_80 : decode cX3_prepare 80 = .ok (.iconst 0, 1) := by decide +kernel
theorem dX3_prepare_81 : decode cX3_prepare 81 = .ok (.istore 4, 2) := by decide +kernel
theorem dX3_prepare_83 : decode cX3_prepare 83 = .ok (.iload 4, 2) := by decide +kernel
theorem dX3_prepare_85 : decode cX3_prepare 85 = .ok (.iconst 4, 1) := by decide +kernel
theorem dX3_prepare_86 : decode cX3_prepare 86 = .ok (.if_icmp .ge 21, 3) := by decide +kernel
theorem dX3_prepare_89 : decode cX3_prepare 89 = .ok (.aload_n 0, 1) := by decide +kernel
theorem dX3_prepare_90 : decode cX3_prepare 90 = .ok (.iload 4, 2) := by decide +kernel
theorem dX3_prepare_92 : decode cX3_prepare 92 = .ok (.aload_n 1, 1) := by decide +kernel
theorem dX3_prepare_93 : decode cX3_prepare 93 = .ok (.iload 4, 2) := by decide +kernel
theorem dX3_prepare_95 : decode cX3_prepare 95 = .ok (.invokevirtual 54, 3) := by decide +kernel
theorem dX3_prepare_98 : decode cX3_prepare 98 = .ok (.invokevirtual 58, 3) := by decide +kernel
theorem dX3_prepare_101 : decode cX3_prepare 101 = .ok (.iinc 4 1, 3) := by decide +kernel
theorem dX3_prepare_104 : decode cX3_prepare 104 = .ok (.goto (-21), 3) := by decide +kernel
theorem dX3_prepare_107 : decode cX3_prepare 107 = .ok (.return_, 1) := by decide +kernel
theorem dX3_fillAllowed_0 : decode cX3_fillAllowed 0 = .ok (.iconst 0, 1) := by decide +kernel
theorem dX3_fillAllowed_1 : decode cX3_fillAllowed 1 = .ok (.istore_n 3, 1) := by decide +kernel
theorem dX3_fillAllowed_2 : decode cX3_fillAllowed 2 = .ok (.iload_n 3, 1) := by decide +kernel
theorem dX3_fillAllowed_3 : decode cX3_fillAllowed 3 = .ok (.bipush 15, 2) := by decide +kernel
theorem dX3_fillAllowed_5 : decode cX3_fillAllowed 5 = .ok (.if_icmp .gt 59, 3) := by decide +kernel
theorem dX3_fillAllowed_8 : decode cX3_fillAllowed 8 = .ok (.iconst 0, 1) := by decide +kernel
theorem dX3_fillAllowed_9 : decode cX3_fillAllowed 9 = .ok (.istore 4, 2) := by decide +kernel
theorem dX3_fillAllowed_11 : decode cX3_fillAllowed 11 = .ok (.iconst 1, 1) := by decide +kernel
theorem dX3_fillAllowed_12 : decode cX3_fillAllowed 12 = .ok (.istore 5, 2) := by decide +kernel
theorem dX3_fillAllowed_14 : decode cX3_fillAllowed 14 = .ok (.iload 5, 2) := by decide +kernel
theorem dX3_fillAllowed_16 : decode cX3_fillAllowed 16 = .ok (.iload_n 3, 1) := by decide +kernel
theorem dX3_fillAllowed_17 : decode cX3_fillAllowed 17 = .ok (.if_icmp .gt 28, 3) := by decide +kernel
theorem dX3_fillAllowed_20 : decode cX3_fillAllowed 20 = .ok (.aload_n 2, 1) := by decide +kernel
theorem dX3_fillAllowed_21 : decode cX3_fillAllowed 21 = .ok (.iload_n 3, 1) := by decide +kernel
theorem dX3_fillAllowed_22 : decode cX3_fillAllowed 22 = .ok (.iload 5, 2) := by decide +kernel
theorem dX3_fillAllowed_24 : decode cX3_fillAllowed 24 = .ok (.invokevirtual 62, 3) := by decide +kernel
theorem dX3_fillAllowed_27 : decode cX3_fillAllowed 27 = .ok (.ifCond .eq 12, 3) := by decide +kernel
theorem dX3_fillAllowed_30 : decode cX3_fillAllowed 30 = .ok (.iload 4, 2) := by decide +kernel
theorem dX3_fillAllowed_32 : decode cX3_fillAllowed 32 = .ok (.iconst 1, 1) := by decide +kernel
theorem dX3_fillAllowed_33 : decode cX3_fillAllowed 33 = .ok (.iload 5, 2) := by decide +kernel
theorem dX3_fillAllowed_35 : decode cX3_fillAllowed 35 = .ok (.ishl, 1) := by decide +kernel
theorem dX3_fillAllowed_36 : decode cX3_fillAllowed 36 = .ok (.ior, 1) := by decide +kernel
theorem dX3_fillAllowed_37 : decode cX3_fillAllowed 37 = .ok (.istore 4, 2) := by decide +kernel
theorem dX3_fillAllowed_39 : decode cX3_fillAllowed 39 = .ok (.iinc 5 1, 3) := by decide +kernel
theorem dX3_fillAllowed_42 : decode cX3_fillAllowed 42 = .ok (.goto (-28), 3) := by decide +kernel
theorem dX3_fillAllowed_45 : decode cX3_fillAllowed 45 = .ok (.aload_n 0, 1) := by decide +kernel
theorem dX3_fillAllowed_46 : decode cX3_fillAllowed 46 = .ok (.getfield 16, 3) := by decide +kernel
theorem dX3_fillAllowed_49 : decode cX3_fillAllowed 49 = .ok (.iload_n 1, 1) := by decide +kernel
theorem dX3_fillAllowed_50 : decode cX3_fillAllowed 50 = .ok (.bipush 16, 2) := by decide +kernel
theorem dX3_fillAllowed_52 : decode cX3_fillAllowed 52 = .ok (.imul, 1) := by decide +kernel
theorem dX3_fillAllowed_53 : decode cX3_fillAllowed 53 = .ok (.iload_n 3, 1) := by decide +kernel
theorem dX3_fillAllowed_54 : decode cX3_fillAllowed 54 = .ok (.iadd, 1) := by decide +kernel
theorem dX3_fillAllowed_55 : decode cX3_fillAllowed 55 = .ok (.iload 4, 2) := by decide +kernel
theorem dX3_fillAllowed_57 : decode cX3_fillAllowed 57 = .ok (.iastore, 1) := by decide +kernel
theorem dX3_fillAllowed_58 : decode cX3_fillAllowed 58 = .ok (.iinc 3 1, 3) := by decide +kernel
theorem dX3_fillAllowed_61 : decode cX3_fillAllowed 61 = .ok (.goto (-59), 3) := by decide +kernel
theorem dX3_fillAllowed_64 : decode cX3_fillAllowed 64 = .ok (.return_, 1) := by decide +kernel
theorem dX3_listNext_0 : decode cX3_listNext 0 = .ok (.aload_n 0, 1) := by decide +kernel
theorem dX3_listNext_1 : decode cX3_listNext 1 = .ok (.iconst 0, 1) := by decide +kernel
theorem dX3_listNext_2 : decode cX3_listNext 2 = .ok (.putfield 68, 3) := by decide +kernel
theorem dX3_listNext_5 : decode cX3_listNext 5 = .ok (.iconst 0, 1) := by decide +kernel
theorem dX3_listNext_6 : decode cX3_listNext 6 = .ok (.istore_n 2, 1) := by decide +kernel
theorem dX3_listNext_7 : decode cX3_listNext 7 = .ok (.iload_n 2, 1) := by decide +kernel
theorem dX3_listNext_8 : decode cX3_listNext 8 = .ok (.aload_n 0, 1) := by decide +kernel
theorem dX3_listNext_9 : decode cX3_listNext 9 = .ok (.getfield 48, 3) := by decide +kernel
theorem dX3_listNext_12 : decode cX3_listNext 12 = .ok (.if_icmp .ge 15, 3) := by decide +kernel
theorem dX3_listNext_15 : decode cX3_listNext 15 = .ok (.aload_n 0, 1) := by decide +kernel
theorem dX3_listNext_16 : decode cX3_listNext 16 = .ok (.iload_n 1, 1) := by decide +kernel
theorem dX3_listNext_17 : decode cX3_listNext 17 = .ok (.iload_n 2, 1) := by decide +kernel
theorem dX3_listNext_18 : decode cX3_listNext 18 = .ok (.invokevirtual 71, 3) := by decide +kernel
theorem dX3_listNext_21 : decode cX3_listNext 21 = .ok (.iinc 2 1, 3) := by decide +kernel
theorem dX3_listNext_24 : decode cX3_listNext 24 = .ok (.goto (-17), 3) := by decide +kernel
theorem dX3_listNext_27 : decode cX3_listNext 27 = .ok (.iconst 0, 1) := by decide +kernel
theorem dX3_listNext_28 : decode cX3_listNext 28 = .ok (.istore_n 2, 1) := by decide +kernel
theorem dX3_listNext_29 : decode cX3_listNext 29 = .ok (.iload_n 2, 1) := by decide +kernel
theorem dX3_listNext_30 : decode cX3_listNext 30 = .ok (.aload_n 0, 1) := by decide +kernel
theorem dX3_listNext_31 : decode cX3_listNext 31 = .ok (.getfield 48, 3) := by decide +kernel
theorem dX3_listNext_34 : decode cX3_listNext 34 = .ok (.if_icmp .ge 34, 3) := by decide +kernel
theorem dX3_listNext_37 : decode cX3_listNext 37 = .ok (.iload_n 2, 1) := by decide +kernel
theorem dX3_listNext_38 : decode cX3_listNext 38 = .ok (.iconst 1, 1) := by decide +kernel
theorem dX3_listNext_39 : decode cX3_listNext 39 = .ok (.iadd, 1) := by decide +kernel
theorem dX3_listNext_40 : decode cX3_listNext 40 = .ok (.istore_n 3, 1) := by decide +kernel
theorem dX3_listNext_41 : decode cX3_listNext 41 = .ok (.iload_n 3, 1) := by decide +kernel
theorem dX3_listNext_42 : decode cX3_listNext 42 = .ok (.aload_n 0, 1) := by decide +kernel
theorem dX3_listNext_43 : decode cX3_listNext 43 = .ok (.getfield 48, 3) := by decide +kernel
theorem dX3_listNext_46 : decode cX3_listNext 46 = .ok (.if_icmp .ge 16, 3) := by decide +kernel
theorem dX3_listNext_49 : decode cX3_listNext 49 = .ok (.aload_n 0, 1) := by decide +kernel
theorem dX3_listNext_50 : decode cX3_listNext 50 = .ok (.iload_n 1, 1) := by decide +kernel
theorem dX3_listNext_51 : decode cX3_listNext 51 = .ok (.iload_n 2, 1) := by decide +kernel
theorem dX3_listNext_52 : decode cX3_listNext 52 = .ok (.iload_n 3, 1) := by decide +kernel
theorem dX3_listNext_53 : decode cX3_listNext 53 = .ok (.invokevirtual 75, 3) := by decide +kernel
theorem dX3_listNext_56 : decode cX3_listNext 56 = .ok (.iinc 3 1, 3) := by decide +kernel
theorem dX3_listNext_59 : decode cX3_listNext 59 = .ok (.goto (-18), 3) := by decide +kernel
theorem dX3_listNext_62 : decode cX3_listNext 62 = .ok (.iinc 2 1, 3) := by decide +kernel
theorem dX3_listNext_65 : decode cX3_listNext 65 = .ok (.goto (-36), 3) := by decide +kernel
theorem dX3_listNext_68 : decode cX3_listNext 68 = .ok (.aload_n 0, 1) := by decide +kernel
theorem dX3_listNext_69 : decode cX3_listNext 69 = .ok (.getfield 68, 3) := by decide +kernel
theorem dX3_listNext_72 : decode cX3_listNext 72 = .ok (.ifCond .le 17, 3) := by decide +kernel
theorem dX3_listNext_75 : decode cX3_listNext 75 = .ok (.iload_n 1, 1) := by decide +kernel
theorem dX3_listNext_76 : decode cX3_listNext 76 = .ok (.ldc 79, 2) := by decide +kernel
theorem dX3_listNext_78 : decode cX3_listNext 78 = .ok (.if_icmp .lt 11, 3) := by decide +kernel
theorem dX3_listNext_81 : decode cX3_listNext 81 = .ok (.aload_n 0, 1) := by decide +kernel
theorem dX3_listNext_82 : decode cX3_listNext 82 = .ok (.iload_n 1, 1) := by decide +kernel
theorem dX3_listNext_83 : decode cX3_listNext 83 = .ok (.ldc 79, 2) := by decide +kernel
theorem dX3_listNext_85 : decode cX3_listNext 85 = .ok (.isub, 1) := by decide +kernel
theorem dX3_listNext_86 : decode cX3_listNext 86 = .ok (.invokevirtual 80, 3) := by decide +kernel
theorem dX3_listNext_89 : decode cX3_listNext 89 = .ok (.aload_n 0, 1) := by decide +kernel
theorem dX3_listNext_90 : decode cX3_listNext 90 = .ok (.getfield 68, 3) := by decide +kernel
theorem dX3_listNext_93 : decode cX3_listNext 93 = .ok (.ireturn, 1) := by decide +kernel
theorem dX3_addTakes_0 : decode cX3_addTakes 0 = .ok (.iload_n 1, 1) := by decide +kernel
theorem dX3_addTakes_1 : decode cX3_addTakes 1 = .ok (.iload_n 2, 1) := by decide +kernel
theorem dX3_addTakes_2 : decode cX3_addTakes 2 = .ok (.invokestatic 84, 3) := by decide +kernel
theorem dX3_addTakes_5 : decode cX3_addTakes 5 = .ok (.istore_n 3, 1) := by decide +kernel
theorem dX3_addTakes_6 : decode cX3_addTakes 6 = .ok (.iload_n 2, 1) := by decide +kernel
theorem dX3_addTakes_7 : decode cX3_addTakes 7 = .ok (.bipush 16, 2) := by decide +kernel
theorem dX3_addTakes_9 : decode cX3_addTakes 9 = .ok (.imul, 1) := by decide +kernel
theorem dX3_addTakes_10 : decode cX3_addTakes 10 = .ok (.iload_n 3, 1) := by decide +kernel
theorem dX3_addTakes_11 : decode cX3_addTakes 11 = .ok (.iadd, 1) := by decide +kernel
theorem dX3_addTakes_12 : decode cX3_addTakes 12 = .ok (.istore 4, 2) := by decide +kernel
theorem dX3_addTakes_14 : decode cX3_addTakes 14 = .ok (.iload 4, 2) := by decide +kernel
theorem dX3_addTakes_16 : decode cX3_addTakes 16 = .ok (.ifCond .lt 23, 3) := by decide +kernel
theorem dX3_addTakes_19 : decode cX3_addTakes 19 = .ok (.iload 4, 2) := by decide +kernel
theorem dX3_addTakes_21 : decode cX3_addTakes 21 = .ok (.aload_n 0, 1) := by decide +kernel
theorem dX3_addTakes_22 : decode cX3_addTakes 22 = .ok (.getfield 16, 3) := by decide +kernel
theorem dX3_addTakes_25 : decode cX3_addTakes 25 = .ok (.arraylength, 1) := by decide +kernel
theorem dX3_addTakes_26 : decode cX3_addTakes 26 = .ok (.if_icmp .ge 13, 3) := by decide +kernel
theorem dX3_addTakes_29 : decode cX3_addTakes 29 = .ok (.aload_n 0, 1) := by decide +kernel
theorem dX3_addTakes_30 : decode cX3_addTakes 30 = .ok (.getfield 16, 3) := by decide +kernel
theorem dX3_addTakes_33 : decode cX3_addTakes 33 = .ok (.iload 4, 2) := by decide +kernel
theorem dX3_addTakes_35 : decode cX3_addTakes 35 = .ok (.iaload, 1) := by decide +kernel
theorem dX3_addTakes_36 : decode cX3_addTakes 36 = .ok (.goto 4, 3) := by decide +kernel
theorem dX3_addTakes_39 : decode cX3_addTakes 39 = .ok (.iconst 0, 1) := by decide +kernel
theorem dX3_addTakes_40 : decode cX3_addTakes 40 = .ok (.istore 5, 2) := by decide +kernel
theorem dX3_addTakes_42 : decode cX3_addTakes 42 = .ok (.iconst 1, 1) := by decide +kernel
theorem dX3_addTakes_43 : decode cX3_addTakes 43 = .ok (.istore 6, 2) := by decide +kernel
theorem dX3_addTakes_45 : decode cX3_addTakes 45 = .ok (.iload 6, 2) := by decide +kernel
theorem dX3_addTakes_47 : decode cX3_addTakes 47 = .ok (.iload_n 3, 1) := by decide +kernel
theorem dX3_addTakes_48 : decode cX3_addTakes 48 = .ok (.if_icmp .gt 31, 3) := by decide +kernel
theorem dX3_addTakes_51 : decode cX3_addTakes 51 = .ok (.iload 5, 2) := by decide +kernel
theorem dX3_addTakes_53 : decode cX3_addTakes 53 = .ok (.iload 6, 2) := by decide +kernel
theorem dX3_addTakes_55 : decode cX3_addTakes 55 = .ok (.ishr, 1) := by decide +kernel
theorem dX3_addTakes_56 : decode cX3_addTakes 56 = .ok (.iconst 1, 1) := by decide +kernel
theorem dX3_addTakes_57 : decode cX3_addTakes 57 = .ok (.iand, 1) := by decide +kernel
theorem dX3_addTakes_58 : decode cX3_addTakes 58 = .ok (.ifCond .eq 15, 3) := by decide +kernel
theorem dX3_addTakes_61 : decode cX3_addTakes 61 = .ok (.aload_n 0, 1) := by decide +kernel
theorem dX3_addTakes_62 : decode cX3_addTakes 62 = .ok (.iload_n 1, 1) := by decide +kernel
theorem dX3_addTakes_63 : decode cX3_addTakes 63 = .ok (.iload 6, 2) := by decide +kernel
theorem dX3_addTakes_65 : decode cX3_addTakes 65 = .ok (.iconst 4, 1) := by decide +kernel
theorem dX3_addTakes_66 : decode cX3_addTakes 66 = .ok (.iload_n 2, 1) := by decide +kernel
theorem dX3_addTakes_67 : decode cX3_addTakes 67 = .ok (.imul, 1) := by decide +kernel
theorem dX3_addTakes_68 : decode cX3_addTakes 68 = .ok (.ishl, 1) := by decide +kernel
theorem dX3_addTakes_69 : decode cX3_addTakes 69 = .ok (.isub, 1) := by decide +kernel
theorem dX3_addTakes_70 : decode cX3_addTakes 70 = .ok (.invokevirtual 80, 3) := by decide +kernel
theorem dX3_addTakes_73 : decode cX3_addTakes 73 = .ok (.iinc 6 1, 3) := by decide +kernel
theorem dX3_addTakes_76 : decode cX3_addTakes 76 = .ok (.goto (-31), 3) := by decide +kernel
theorem dX3_addTakes_79 : decode cX3_addTakes 79 = .ok (.return_, 1) := by decide +kernel
theorem dX3_addShared_0 : decode cX3_addShared 0 = .ok (.aload_n 0, 1) := by decide +kernel
theorem dX3_addShared_1 : decode cX3_addShared 1 = .ok (.getfield 52, 3) := by decide +kernel
theorem dX3_addShared_4 : decode cX3_addShared 4 = .ok (.ifCond .ne 4, 3) := by decide +kernel
theorem dX3_addShared_7 : decode cX3_addShared 7 = .ok (.return_, 1) := by decide +kernel
theorem dX3_addShared_8 : decode cX3_addShared 8 = .ok (.iconst 1, 1) := by decide +kernel
theorem dX3_addShared_9 : decode cX3_addShared 9 = .ok (.iconst 4, 1) := by decide +kernel
theorem dX3_addShared_10 : decode cX3_addShared 10 = .ok (.iload_n 2, 1) := by decide +kernel
theorem dX3_addShared_11 : decode cX3_addShared 11 = .ok (.imul, 1) := by decide +kernel
theorem dX3_addShared_12 : decode cX3_addShared 12 = .ok (.ishl, 1) := by decide +kernel
theorem dX3_addShared_13 : decode cX3_addShared 13 = .ok (.iconst 1, 1) := by decide +kernel
theorem dX3_addShared_14 : decode cX3_addShared 14 = .ok (.iconst 4, 1) := by decide +kernel
theorem dX3_addShared_15 : decode cX3_addShared 15 = .ok (.iload_n 3, 1) := by decide +kernel
theorem dX3_addShared_16 : decode cX3_addShared 16 = .ok (.imul, 1) := by decide +kernel
theorem dX3_addShared_17 : decode cX3_addShared 17 = .ok (.ishl, 1) := by decide +kernel
theorem dX3_addShared_18 : decode cX3_addShared 18 = .ok (.iadd, 1) := by decide +kernel
theorem dX3_addShared_19 : decode cX3_addShared 19 = .ok (.istore 4, 2) := by decide +kernel
theorem dX3_addShared_21 : decode cX3_addShared 21 = .ok (.iload_n 1, 1) := by decide +kernel
theorem dX3_addShared_22 : decode cX3_addShared 22 = .ok (.iload_n 2, 1) := by decide +kernel
theorem dX3_addShared_23 : decode cX3_addShared 23 = .ok (.invokestatic 84, 3) := by decide +kernel
theorem dX3_addShared_26 : decode cX3_addShared 26 = .ok (.iload_n 1, 1) := by decide +kernel
theorem dX3_addShared_27 : decode cX3_addShared 27 = .ok (.iload_n 3, 1) := by decide +kernel
theorem dX3_addShared_28 : decode cX3_addShared 28 = .ok (.invokestatic 84, 3) := by decide +kernel
theorem dX3_addShared_31 : decode cX3_addShared 31 = .ok (.invokestatic 88, 3) := by decide +kernel
theorem dX3_addShared_34 : decode cX3_addShared 34 = .ok (.istore 5, 2) := by decide +kernel
theorem dX3_addShared_36 : decode cX3_addShared 36 = .ok (.iconst 1, 1) := by decide +kernel
theorem dX3_addShared_37 : decode cX3_addShared 37 = .ok (.istore 6, 2) := by decide +kernel
theorem dX3_addShared_39 : decode cX3_addShared 39 = .ok (.iload 6, 2) := by decide +kernel
theorem dX3_addShared_41 : decode cX3_addShared 41 = .ok (.iload 5, 2) := by decide +kernel
theorem dX3_addShared_43 : decode cX3_addShared 43 = .ok (.if_icmp .gt 32, 3) := by decide +kernel
theorem dX3_addShared_46 : decode cX3_addShared 46 = .ok (.aload_n 0, 1) := by decide +kernel
theorem dX3_addShared_47 : decode cX3_addShared 47 = .ok (.getfield 52, 3) := by decide +kernel
theorem dX3_addShared_50 : decode cX3_addShared 50 = .ok (.iload 6, 2) := by decide +kernel
theorem dX3_addShared_52 : decode cX3_addShared 52 = .ok (.ishr, 1) := by decide +kernel
theorem dX3_addShared_53 : decode cX3_addShared 53 = .ok (.iconst 1, 1) := by decide +kernel
theorem dX3_addShared_54 : decode cX3_addShared 54 = .ok (.iand, 1) := by decide +kernel
theorem dX3_addShared_55 : decode cX3_addShared 55 = .ok (.ifCond .eq 14, 3) := by decide +kernel
theorem dX3_addShared_58 : decode cX3_addShared 58 = .ok (.aload_n 0, 1) := by decide +kernel
theorem dX3_addShared_59 : decode cX3_addShared 59 = .ok (.iload_n 1, 1) := by decide +kernel
theorem dX3_addShared_60 : decode cX3_addShared 60 = .ok (.iload 6, 2) := by decide +kernel
theorem dX3_addShared_62 : decode cX3_addShared 62 = .ok (.iload 4, 2) := by decide +kernel
theorem dX3_addShared_64 : decode cX3_addShared 64 = .ok (.imul, 1) := by decide +kernel
theorem dX3_addShared_65 : decode cX3_addShared 65 = .ok (.isub, 1) := by decide +kernel
theorem dX3_addShared_66 : decode cX3_addShared 66 = .ok (.invokevirtual 80, 3) := by decide +kernel
theorem dX3_addShared_69 : decode cX3_addShared 69 = .ok (.iinc 6 1, 3) := by decide +kernel
theorem dX3_addShared_72 : decode cX3_addShared 72 = .ok (.goto (-33), 3) := by decide +kernel
theorem dX3_addShared_75 : decode cX3_addShared 75 = .ok (.return_, 1) := by decide +kernel
theorem dX3_addNext_0 : decode cX3_addNext 0 = .ok (.aload_n 0, 1) := by decide +kernel
theorem dX3_addNext_1 : decode cX3_addNext 1 = .ok (.getfield 68, 3) := by decide +kernel
theorem dX3_addNext_4 : decode cX3_addNext 4 = .ok (.ifCond .lt 35, 3) := by decide +kernel
theorem dX3_addNext_7 : decode cX3_addNext 7 = .ok (.aload_n 0, 1) := by decide +kernel
theorem dX3_addNext_8 : decode cX3_addNext 8 = .ok (.getfield 68, 3) := by decide +kernel
theorem dX3_addNext_11 : decode cX3_addNext 11 = .ok (.aload_n 0, 1) := by decide +kernel
theorem dX3_addNext_12 : decode cX3_addNext 12 = .ok (.getfield 19, 3) := by decide +kernel
theorem dX3_addNext_15 : decode cX3_addNext 15 = .ok (.arraylength, 1) := by decide +kernel
theorem dX3_addNext_16 : decode cX3_addNext 16 = .ok (.if_icmp .ge 23, 3) := by decide +kernel
theorem dX3_addNext_19 : decode cX3_addNext 19 = .ok (.aload_n 0, 1) := by decide +kernel
theorem dX3_addNext_20 : decode cX3_addNext 20 = .ok (.getfield 19, 3) := by decide +kernel
theorem dX3_addNext_23 : decode cX3_addNext 23 = .ok (.aload_n 0, 1) := by decide +kernel
theorem dX3_addNext_24 : decode cX3_addNext 24 = .ok (.getfield 68, 3) := by decide +kernel
theorem dX3_addNext_27 : decode cX3_addNext 27 = .ok (.iload_n 1, 1) := by decide +kernel
theorem dX3_addNext_28 : decode cX3_addNext 28 = .ok (.iastore, 1) := by decide +kernel
theorem dX3_addNext_29 : decode cX3_addNext 29 = .ok (.aload_n 0, 1) := by decide +kernel
theorem dX3_addNext_30 : decode cX3_addNext 30 = .ok (.dup, 1) := by decide +kernel
theorem dX3_addNext_31 : decode cX3_addNext 31 = .ok (.getfield 68, 3) := by decide +kernel
theorem dX3_addNext_34 : decode cX3_addNext 34 = .ok (.iconst 1, 1) := by decide +kernel
theorem dX3_addNext_35 : decode cX3_addNext 35 = .ok (.iadd, 1) := by decide +kernel
theorem dX3_addNext_36 : decode cX3_addNext 36 = .ok (.putfield 68, 3) := by decide +kernel
theorem dX3_addNext_39 : decode cX3_addNext 39 = .ok (.return_, 1) := by decide +kernel
theorem dX3_nextAt_0 : decode cX3_nextAt 0 = .ok (.iload_n 1, 1) := by decide +kernel
theorem dX3_nextAt_1 : decode cX3_nextAt 1 = .ok (.ifCond .lt 21, 3) := by decide +kernel
theorem dX3_nextAt_4 : decode cX3_nextAt 4 = .ok (.iload_n 1, 1) := by decide +kernel
theorem dX3_nextAt_5 : decode cX3_nextAt 5 = .ok (.aload_n 0, 1) := by decide +kernel
theorem dX3_nextAt_6 : decode cX3_nextAt 6 = .ok (.getfield 19, 3) := by decide +kernel
theorem dX3_nextAt_9 : decode cX3_nextAt 9 = .ok (.arraylength, 1) := by decide +kernel
theorem dX3_nextAt_10 : decode cX3_nextAt 10 = .ok (.if_icmp .ge 12, 3) := by decide +kernel
theorem dX3_nextAt_13 : decode cX3_nextAt 13 = .ok (.aload_n 0, 1) := by decide +kernel
theorem dX3_nextAt_14 : decode cX3_nextAt 14 = .ok (.getfield 19, 3) := by decide +kernel
theorem dX3_nextAt_17 : decode cX3_nextAt 17 = .ok (.iload_n 1, 1) := by decide +kernel
theorem dX3_nextAt_18 : decode cX3_nextAt 18 = .ok (.iaload, 1) := by decide +kernel
theorem dX3_nextAt_19 : decode cX3_nextAt 19 = .ok (.goto 4, 3) := by decide +kernel
theorem dX3_nextAt_22 : decode cX3_nextAt 22 = .ok (.iconst 0, 1) := by decide +kernel
theorem dX3_nextAt_23 : decode cX3_nextAt 23 = .ok (.ireturn, 1) := by decide +kernel
theorem dX3_solveBelow_0 : decode cX3_solveBelow 0 = .ok (.aload_n 0, 1) := by decide +kernel
theorem dX3_solveBelow_1 : decode cX3_solveBelow 1 = .ok (.iload_n 1, 1) := by decide +kernel
theorem dX3_solveBelow_2 : decode cX3_solveBelow 2 = .ok (.invokevirtual 93, 3) := by decide +kernel
theorem dX3_solveBelow_5 : decode cX3_solveBelow 5 = .ok (.ifCond .eq 4, 3) := by decide +kernel
theorem dX3_solveBelow_8 : decode cX3_solveBelow 8 = .ok (.return_, 1) := by decide +kernel
theorem dX3_solveBelow_9 : decode cX3_solveBelow 9 = .ok (.iconst 0, 1) := by decide +kernel
theorem dX3_solveBelow_10 : decode cX3_solveBelow 10 = .ok (.istore_n 2, 1) := by decide +kernel
theorem dX3_solveBelow_11 : decode cX3_solveBelow 11 = .ok (.iload_n 1, 1) := by decide +kernel
theorem dX3_solveBelow_12 : decode cX3_solveBelow 12 = .ok (.invokestatic 97, 3) := by decide +kernel
theorem dX3_solveBelow_15 : decode cX3_solveBelow 15 = .ok (.iconst 1, 1) := by decide +kernel
theorem dX3_solveBelow_16 : decode cX3_solveBelow 16 = .ok (.iadd, 1) := by decide +kernel
theorem dX3_solveBelow_17 : decode cX3_solveBelow 17 = .ok (.iload_n 1, 1) := by decide +kernel
theorem dX3_solveBelow_18 : decode cX3_solveBelow 18 = .ok (.invokestatic 100, 3) := by decide +kernel
theorem dX3_solveBelow_21 : decode cX3_solveBelow 21 = .ok (.imul, 1) := by decide +kernel
theorem dX3_solveBelow_22 : decode cX3_solveBelow 22 = .ok (.istore_n 3, 1) := by decide +kernel
theorem dX3_solveBelow_23 : decode cX3_solveBelow 23 = .ok (.iload_n 3, 1) := by decide +kernel
theorem dX3_solveBelow_24 : decode cX3_solveBelow 24 = .ok (.ifCond .le 33, 3) := by decide +kernel
theorem dX3_solveBelow_27 : decode cX3_solveBelow 27 = .ok (.aload_n 0, 1) := by decide +kernel
theorem dX3_solveBelow_28 : decode cX3_solveBelow 28 = .ok (.iload_n 2, 1) := by decide +kernel
theorem dX3_solveBelow_29 : decode cX3_solveBelow 29 = .ok (.invokevirtual 93, 3) := by decide +kernel
theorem dX3_solveBelow_32 : decode cX3_solveBelow 32 = .ok (.ifCond .ne 13, 3) := by decide +kernel
theorem dX3_solveBelow_35 : decode cX3_solveBelow 35 = .ok (.aload_n 0, 1) := by decide +kernel
theorem dX3_solveBelow_36 : decode cX3_solveBelow 36 = .ok (.iload_n 2, 1) := by decide +kernel
theorem dX3_solveBelow_37 : decode cX3_solveBelow 37 = .ok (.aload_n 0, 1) := by decide +kernel
theorem dX3_solveBelow_38 : decode cX3_solveBelow 38 = .ok (.iload_n 2, 1) := by decide +kernel
theorem dX3_solveBelow_39 : decode cX3_solveBelow 39 = .ok (.invokevirtual 103, 3) := by decide +kernel
theorem dX3_solveBelow_42 : decode cX3_solveBelow 42 = .ok (.invokevirtual 106, 3) := by decide +kernel
theorem dX3_solveBelow_45 : decode cX3_solveBelow 45 = .ok (.iload_n 2, 1) := by decide +kernel
theorem dX3_solveBelow_46 : decode cX3_solveBelow 46 = .ok (.iload_n 1, 1) := by decide +kernel
theorem dX3_solveBelow_47 : decode cX3_solveBelow 47 = .ok (.invokestatic 109, 3) := by decide +kernel
theorem dX3_solveBelow_50 : decode cX3_solveBelow 50 = .ok (.istore_n 2, 1) := by decide +kernel
theorem dX3_solveBelow_51 : decode cX3_solveBelow 51 = .ok (.iinc 3 (-1), 3) := by decide +kernel
theorem dX3_solveBelow_54 : decode cX3_solveBelow 54 = .ok (.goto (-31), 3) := by decide +kernel
theorem dX3_solveBelow_57 : decode cX3_solveBelow 57 = .ok (.return_, 1) := by decide +kernel
theorem dX3_countHeapsBelow_0 : decode cX3_countHeapsBelow 0 = .ok (.iconst 1, 1) := by decide +kernel
theorem dX3_countHeapsBelow_1 : decode cX3_countHeapsBelow 1 = .ok (.istore_n 1, 1) := by decide +kernel
theorem dX3_countHeapsBelow_2 : decode cX3_countHeapsBelow 2 = .ok (.iconst 0, 1) := by decide +kernel
theorem dX3_countHeapsBelow_3 : decode cX3_countHeapsBelow 3 = .ok (.istore_n 2, 1) := by decide +kernel
theorem dX3_countHeapsBelow_4 : decode cX3_countHeapsBelow 4 = .ok (.iload_n 2, 1) := by decide +kernel
theorem dX3_countHeapsBelow_5 : decode cX3_countHeapsBelow 5 = .ok (.iconst 4, 1) := by decide +kernel
theorem dX3_countHeapsBelow_6 : decode cX3_countHeapsBelow 6 = .ok (.if_icmp .ge 19, 3) := by decide +kernel
theorem dX3_countHeapsBelow_9 : decode cX3_countHeapsBelow 9 = .ok (.iload_n 1, 1) := by decide +kernel
theorem dX3_countHeapsBelow_10 : decode cX3_countHeapsBelow 10 = .ok (.iload_n 0, 1) := by decide +kernel
theorem dX3_countHeapsBelow_11 : decode cX3_countHeapsBelow 11 = .ok (.iload_n 2, 1) := by decide +kernel
theorem dX3_countHeapsBelow_12 : decode cX3_countHeapsBelow 12 = .ok (.invokestatic 84, 3) := by decide +kernel
theorem dX3_countHeapsBelow_15 : decode cX3_countHeapsBelow 15 = .ok (.iconst 1, 1) := by decide +kernel
theorem dX3_countHeapsBelow_16 : decode cX3_countHeapsBelow 16 = .ok (.iadd, 1) := by decide +kernel
theorem dX3_countHeapsBelow_17 : decode cX3_countHeapsBelow 17 = .ok (.imul, 1) := by decide +kernel
theorem dX3_countHeapsBelow_18 : decode cX3_countHeapsBelow 18 = .ok (.istore_n 1, 1) := by decide +kernel
theorem dX3_countHeapsBelow_19 : decode cX3_countHeapsBelow 19 = .ok (.iinc 2 1, 3) := by decide +kernel
theorem dX3_countHeapsBelow_22 : decode cX3_countHeapsBelow 22 = .ok (.goto (-18), 3) := by decide +kernel
theorem dX3_countHeapsBelow_25 : decode cX3_countHeapsBelow 25 = .ok (.iload_n 1, 1) := by decide +kernel
theorem dX3_countHeapsBelow_26 : decode cX3_countHeapsBelow 26 = .ok (.ireturn, 1) := by decide +kernel
theorem dX3_followingBelow_0 : decode cX3_followingBelow 0 = .ok (.iload_n 0, 1) := by decide +kernel
theorem dX3_followingBelow_1 : decode cX3_followingBelow 1 = .ok (.istore_n 2, 1) := by decide +kernel
theorem dX3_followingBelow_2 : decode cX3_followingBelow 2 = .ok (.iconst 0, 1) := by decide +kernel
theorem dX3_followingBelow_3 : decode cX3_followingBelow 3 = .ok (.istore_n 3, 1) := by decide +kernel
theorem dX3_followingBelow_4 : decode cX3_followingBelow 4 = .ok (.iload_n 3, 1) := by decide +kernel
theorem dX3_followingBelow_5 : decode cX3_followingBelow 5 = .ok (.iconst 4, 1) := by decide +kernel
theorem dX3_followingBelow_6 : decode cX3_followingBelow 6 = .ok (.if_icmp .ge 37, 3) := by decide +kernel
theorem dX3_followingBelow_9 : decode cX3_followingBelow 9 = .ok (.iload_n 2, 1) := by decide +kernel
theorem dX3_followingBelow_10 : decode cX3_followingBelow 10 = .ok (.iload_n 3, 1) := by decide +kernel
theorem dX3_followingBelow_11 : decode cX3_followingBelow 11 = .ok (.invokestatic 84, 3) := by decide +kernel
theorem dX3_followingBelow_14 : decode cX3_followingBelow 14 = .ok (.iload_n 1, 1) := by decide +kernel
theorem dX3_followingBelow_15 : decode cX3_followingBelow 15 = .ok (.iload_n 3, 1) := by decide +kernel
theorem dX3_followingBelow_16 : decode cX3_followingBelow 16 = .ok (.invokestatic 84, 3) := by decide +kernel
theorem dX3_followingBelow_19 : decode cX3_followingBelow 19 = .ok (.if_icmp .ge 11, 3) := by decide +kernel
theorem dX3_followingBelow_22 : decode cX3_followingBelow 22 = .ok (.iload_n 2, 1) := by decide +kernel
theorem dX3_followingBelow_23 : decode cX3_followingBelow 23 = .ok (.iconst 1, 1) := by decide +kernel
theorem dX3_followingBelow_24 : decode cX3_followingBelow 24 = .ok (.iconst 4, 1) := by decide +kernel
theorem dX3_followingBelow_25 : decode cX3_followingBelow 25 = .ok (.iload_n 3, 1) := by decide +kernel
theorem dX3_followingBelow_26 : decode cX3_followingBelow 26 = .ok (.imul, 1) := by decide +kernel
theorem dX3_followingBelow_27 : decode cX3_followingBelow 27 = .ok (.ishl, 1) := by decide +kernel
theorem dX3_followingBelow_28 : decode cX3_followingBelow 28 = .ok (.iadd, 1) := by decide +kernel
theorem dX3_followingBelow_29 : decode cX3_followingBelow 29 = .ok (.ireturn, 1) := by decide +kernel
theorem dX3_followingBelow_30 : decode cX3_followingBelow 30 = .ok (.iload_n 2, 1) := by decide +kernel
theorem dX3_followingBelow_31 : decode cX3_followingBelow 31 = .ok (.iload_n 3, 1) := by decide +kernel
theorem dX3_followingBelow_32 : decode cX3_followingBelow 32 = .ok (.iconst 0, 1) := by decide +kernel
theorem dX3_followingBelow_33 : decode cX3_followingBelow 33 = .ok (.invokestatic 112, 3) := by decide +kernel
theorem dX3_followingBelow_36 : decode cX3_followingBelow 36 = .ok (.istore_n 2, 1) := by decide +kernel
theorem dX3_followingBelow_37 : decode cX3_followingBelow 37 = .ok (.iinc 3 1, 3) := by decide +kernel
theorem dX3_followingBelow_40 : decode cX3_followingBelow 40 = .ok (.goto (-36), 3) := by decide +kernel
theorem dX3_followingBelow_43 : decode cX3_followingBelow 43 = .ok (.iload_n 2, 1) := by decide +kernel
theorem dX3_followingBelow_44 : decode cX3_followingBelow 44 = .ok (.ldc 79, 2) := by decide +kernel
theorem dX3_followingBelow_46 : decode cX3_followingBelow 46 = .ok (.iadd, 1) := by decide +kernel
theorem dX3_followingBelow_47 : decode cX3_followingBelow 47 = .ok (.ireturn, 1) := by decide +kernel
theorem dX3_solve_0 : decode cX3_solve 0 = .ok (.aload_n 0, 1) := by decide +kernel
theorem dX3_solve_1 : decode cX3_solve 1 = .ok (.iload_n 1, 1) := by decide +kernel
theorem dX3_solve_2 : decode cX3_solve 2 = .ok (.invokevirtual 116, 3) := by decide +kernel
theorem dX3_solve_5 : decode cX3_solve 5 = .ok (.istore_n 2, 1) := by decide +kernel
theorem dX3_solve_6 : decode cX3_solve 6 = .ok (.lconst 0, 1) := by decide +kernel
theorem dX3_solve_7 : decode cX3_solve 7 = .ok (.lstore_n 3, 1) := by decide +kernel
theorem dX3_solve_8 : decode cX3_solve 8 = .ok (.bipush 64, 2) := by decide +kernel
theorem dX3_solve_10 : decode cX3_solve 10 = .ok (.istore 5, 2) := by decide +kernel
theorem dX3_solve_12 : decode cX3_solve 12 = .ok (.iconst 0, 1) := by decide +kernel
theorem dX3_solve_13 : decode cX3_solve 13 = .ok (.istore 6, 2) := by decide +kernel
theorem dX3_solve_15 : decode cX3_solve 15 = .ok (.iconst 0, 1) := by decide +kernel
theorem dX3_solve_16 : decode cX3_solve 16 = .ok (.istore 7, 2) := by decide +kernel
theorem dX3_solve_18 : decode cX3_solve 18 = .ok (.iload 7, 2) := by decide +kernel
theorem dX3_solve_20 : decode cX3_solve 20 = .ok (.iload_n 2, 1) := by decide +kernel
theorem dX3_solve_21 : decode cX3_solve 21 = .ok (.if_icmp .ge 68, 3) := by decide +kernel
theorem dX3_solve_24 : decode cX3_solve 24 = .ok (.aload_n 0, 1) := by decide +kernel
theorem dX3_solve_25 : decode cX3_solve 25 = .ok (.aload_n 0, 1) := by decide +kernel
theorem dX3_solve_26 : decode cX3_solve 26 = .ok (.iload 7, 2) := by decide +kernel
theorem dX3_solve_28 : decode cX3_solve 28 = .ok (.invokevirtual 119, 3) := by decide +kernel
theorem dX3_solve_31 : decode cX3_solve 31 = .ok (.invokevirtual 93, 3) := by decide +kernel
theorem dX3_solve_34 : decode cX3_solve 34 = .ok (.istore 8, 2) := by decide +kernel
theorem dX3_solve_36 : decode cX3_solve 36 = .ok (.iload 8, 2) := by decide +kernel
theorem dX3_solve_38 : decode cX3_solve 38 = .ok (.bipush 6, 2) := by decide +kernel
theorem dX3_solve_40 : decode cX3_solve 40 = .ok (.ishr, 1) := by decide +kernel
theorem dX3_solve_41 : decode cX3_solve 41 = .ok (.bipush 63, 2) := by decide +kernel
theorem dX3_solve_43 : decode cX3_solve 43 = .ok (.iand, 1) := by decide +kernel
theorem dX3_solve_44 : decode cX3_solve 44 = .ok (.istore 9, 2) := by decide +kernel
theorem dX3_solve_46 : decode cX3_solve 46 = .ok (.lload_n 3, 1) := by decide +kernel
theorem dX3_solve_47 : decode cX3_solve 47 = .ok (.lconst 1, 1) := by decide +kernel
theorem dX3_solve_48 : decode cX3_solve 48 = .ok (.iload 8, 2) := by decide +kernel
theorem dX3_solve_50 : decode cX3_solve 50 = .ok (.bipush 63, 2) := by decide +kernel
theorem dX3_solve_52 : decode cX3_solve 52 = .ok (.iand, 1) := by decide +kernel
theorem dX3_solve_53 : decode cX3_solve 53 = .ok (.lshl, 1) := by decide +kernel
theorem dX3_solve_54 : decode cX3_solve 54 = .ok (.lor, 1) := by decide +kernel
theorem dX3_solve_55 : decode cX3_solve 55 = .ok (.lstore_n 3, 1) := by decide +kernel
theorem dX3_solve_56 : decode cX3_solve 56 = .ok (.iload 8, 2) := by decide +kernel
theorem dX3_solve_58 : decode cX3_solve 58 = .ok (.sipush 4096, 3) := by decide +kernel
theorem dX3_solve_61 : decode cX3_solve 61 = .ok (.iand, 1) := by decide +kernel
theorem dX3_solve_62 : decode cX3_solve 62 = .ok (.ifCond .ne 12, 3) := by decide +kernel
theorem dX3_solve_65 : decode cX3_solve 65 = .ok (.iload 5, 2) := by decide +kernel
theorem dX3_solve_67 : decode cX3_solve 67 = .ok (.iload 9, 2) := by decide +kernel
theorem dX3_solve_69 : decode cX3_solve 69 = .ok (.invokestatic 88, 3) := by decide +kernel
theorem dX3_solve_72 : decode cX3_solve 72 = .ok (.istore 5, 2) := by decide +kernel
theorem dX3_solve_74 : decode cX3_solve 74 = .ok (.iload 6, 2) := by decide +kernel
theorem dX3_solve_76 : decode cX3_solve 76 = .ok (.iload 9, 2) := by decide +kernel
theorem dX3_solve_78 : decode cX3_solve 78 = .ok (.invokestatic 122, 3) := by decide +kernel
theorem dX3_solve_81 : decode cX3_solve 81 = .ok (.istore 6, 2) := by decide +kernel
theorem dX3_solve_83 : decode cX3_solve 83 = .ok (.iinc 7 1, 3) := by decide +kernel
theorem dX3_solve_86 : decode cX3_solve 86 = .ok (.goto (-68), 3) := by decide +kernel
theorem dX3_solve_89 : decode cX3_solve 89 = .ok (.iload_n 2, 1) := by decide +kernel
theorem dX3_solve_90 : decode cX3_solve 90 = .ok (.ifCond .ne 18, 3) := by decide +kernel
theorem dX3_solve_93 : decode cX3_solve 93 = .ok (.aload_n 0, 1) := by decide +kernel
theorem dX3_solve_94 : decode cX3_solve 94 = .ok (.getfield 53, 3) := by decide +kernel
theorem dX3_solve_97 : decode cX3_solve 97 = .ok (.ifCond .eq 9, 3) := by decide +kernel
theorem dX3_solve_100 : decode cX3_solve 100 = .ok (.sipush 4096, 3) := by decide +kernel
theorem dX3_solve_103 : decode cX3_solve 103 = .ok (.goto 4, 3) := by decide +kernel
theorem dX3_solve_106 : decode cX3_solve 106 = .ok (.iconst 0, 1) := by decide +kernel
theorem dX3_solve_107 : decode cX3_solve 107 = .ok (.ireturn, 1) := by decide +kernel
theorem dX3_solve_108 : decode cX3_solve 108 = .ok (.iload 5, 2) := by decide +kernel
theorem dX3_solve_110 : decode cX3_solve 110 = .ok (.bipush 64, 2) := by decide +kernel
theorem dX3_solve_112 : decode cX3_solve 112 = .ok (.if_icmp .ge 7, 3) := by decide +kernel
theorem dX3_solve_115 : decode cX3_solve 115 = .ok (.iconst 1, 1) := by decide +kernel
theorem dX3_solve_116 : decode cX3_solve 116 = .ok (.goto 4, 3) := by decide +kernel
theorem dX3_solve_119 : decode cX3_solve 119 = .ok (.iconst 0, 1) := by decide +kernel
theorem dX3_solve_120 : decode cX3_solve 120 = .ok (.istore 7, 2) := by decide +kernel
theorem dX3_solve_122 : decode cX3_solve 122 = .ok (.iconst 1, 1) := by decide +kernel
theorem dX3_solve_123 : decode cX3_solve 123 = .ok (.iload 7, 2) := by decide +kernel
theorem dX3_solve_125 : decode cX3_solve 125 = .ok (.ifCond .eq 8, 3) := by decide +kernel
theorem dX3_solve_128 : decode cX3_solve 128 = .ok (.iload 5, 2) := by decide +kernel
theorem dX3_solve_130 : decode cX3_solve 130 = .ok (.goto 5, 3) := by decide +kernel
theorem dX3_solve_133 : decode cX3_solve 133 = .ok (.iload 6, 2) := by decide +kernel
theorem dX3_solve_135 : decode cX3_solve 135 = .ok (.iadd, 1) := by decide +kernel
theorem dX3_solve_136 : decode cX3_solve 136 = .ok (.istore 8, 2) := by decide +kernel
theorem dX3_solve_138 : decode cX3_solve 138 = .ok (.iload 7, 2) := by decide +kernel
theorem dX3_solve_140 : decode cX3_solve 140 = .ok (.ifCond .eq 9, 3) := by decide +kernel
theorem dX3_solve_143 : decode cX3_solve 143 = .ok (.sipush 4096, 3) := by decide +kernel
theorem dX3_solve_146 : decode cX3_solve 146 = .ok (.goto 4, 3) := by decide +kernel
theorem dX3_solve_149 : decode cX3_solve 149 = .ok (.iconst 0, 1) := by decide +kernel
theorem dX3_solve_150 : decode cX3_solve 150 = .ok (.iload 8, 2) := by decide +kernel
theorem dX3_solve_152 : decode cX3_solve 152 = .ok (.bipush 6, 2) := by decide +kernel
theorem dX3_solve_154 : decode cX3_solve 154 = .ok (.ishl, 1) := by decide +kernel
theorem dX3_solve_155 : decode cX3_solve 155 = .ok (.ior, 1) := by decide +kernel
theorem dX3_solve_156 : decode cX3_solve 156 = .ok (.lload_n 3, 1) := by decide +kernel
theorem dX3_solve_157 : decode cX3_solve 157 = .ok (.invokestatic 125, 3) := by decide +kernel
theorem dX3_solve_160 : decode cX3_solve 160 = .ok (.ior, 1) := by decide +kernel
theorem dX3_solve_161 : decode cX3_solve 161 = .ok (.ireturn, 1) := by decide +kernel
theorem dX3_leastOutside_0 : decode cX3_leastOutside 0 = .ok (.iconst 0, 1) := by decide +kernel
theorem dX3_leastOutside_1 : decode cX3_leastOutside 1 = .ok (.istore_n 2, 1) := by decide +kernel
theorem dX3_leastOutside_2 : decode cX3_leastOutside 2 = .ok (.iload_n 2, 1) := by decide +kernel
theorem dX3_leastOutside_3 : decode cX3_leastOutside 3 = .ok (.bipush 63, 2) := by decide +kernel
theorem dX3_leastOutside_5 : decode cX3_leastOutside 5 = .ok (.if_icmp .ge 19, 3) := by decide +kernel
theorem dX3_leastOutside_8 : decode cX3_leastOutside 8 = .ok (.lload_n 0, 1) := by decide +kernel
theorem dX3_leastOutside_9 : decode cX3_leastOutside 9 = .ok (.iload_n 2, 1) := by decide +kernel
theorem dX3_leastOutside_10 : decode cX3_leastOutside 10 = .ok (.lshr, 1) := by decide +kernel
theorem dX3_leastOutside_11 : decode cX3_leastOutside 11 = .ok (.lconst 1, 1) := by decide +kernel
theorem dX3_leastOutside_12 : decode cX3_leastOutside 12 = .ok (.land, 1) := by decide +kernel
theorem dX3_leastOutside_13 : decode cX3_leastOutside 13 = .ok (.lconst 0, 1) := by decide +kernel
theorem dX3_leastOutside_14 : decode cX3_leastOutside 14 = .ok (.lcmp, 1) := by decide +kernel
theorem dX3_leastOutside_15 : decode cX3_leastOutside 15 = .ok (.ifCond .eq 9, 3) := by decide +kernel
theorem dX3_leastOutside_18 : decode cX3_leastOutside 18 = .ok (.iinc 2 1, 3) := by decide +kernel
theorem dX3_leastOutside_21 : decode cX3_leastOutside 21 = .ok (.goto (-19), 3) := by decide +kernel
theorem dX3_leastOutside_24 : decode cX3_leastOutside 24 = .ok (.iload_n 2, 1) := by decide +kernel
theorem dX3_leastOutside_25 : decode cX3_leastOutside 25 = .ok (.ireturn, 1) := by decide +kernel
theorem dX3_keep_0 : decode cX3_keep 0 = .ok (.iload_n 1, 1) := by decide +kernel
theorem dX3_keep_1 : decode cX3_keep 1 = .ok (.ifCond .lt 27, 3) := by decide +kernel
theorem dX3_keep_4 : decode cX3_keep 4 = .ok (.iload_n 1, 1) := by decide +kernel
theorem dX3_keep_5 : decode cX3_keep 5 = .ok (.aload_n 0, 1) := by decide +kernel
theorem dX3_keep_6 : decode cX3_keep 6 = .ok (.getfield 10, 3) := by decide +kernel
theorem dX3_keep_9 : decode cX3_keep 9 = .ok (.arraylength, 1) := by decide +kernel
theorem dX3_keep_10 : decode cX3_keep 10 = .ok (.if_icmp .ge 18, 3) := by decide +kernel
theorem dX3_keep_13 : decode cX3_keep 13 = .ok (.aload_n 0, 1) := by decide +kernel
theorem dX3_keep_14 : decode cX3_keep 14 = .ok (.getfield 10, 3) := by decide +kernel
theorem dX3_keep_17 : decode cX3_keep 17 = .ok (.iload_n 1, 1) := by decide +kernel
theorem dX3_keep_18 : decode cX3_keep 18 = .ok (.aload_n 0, 1) := by decide +kernel
theorem dX3_keep_19 : decode cX3_keep 19 = .ok (.getfield 26, 3) := by decide +kernel
theorem dX3_keep_22 : decode cX3_keep 22 = .ok (.bipush 13, 2) := by decide +kernel
theorem dX3_keep_24 : decode cX3_keep 24 = .ok (.ishl, 1) := by decide +kernel
theorem dX3_keep_25 : decode cX3_keep 25 = .ok (.iload_n 2, 1) := by decide +kernel
theorem dX3_keep_26 : decode cX3_keep 26 = .ok (.ior, 1) := by decide +kernel
theorem dX3_keep_27 : decode cX3_keep 27 = .ok (.iastore, 1) := by decide +kernel
theorem dX3_keep_28 : decode cX3_keep 28 = .ok (.return_, 1) := by decide +kernel
theorem dX3_foundAt_0 : decode cX3_foundAt 0 = .ok (.iload_n 1, 1) := by decide +kernel
theorem dX3_foundAt_1 : decode cX3_foundAt 1 = .ok (.ifCond .lt 21, 3) := by decide +kernel
theorem dX3_foundAt_4 : decode cX3_foundAt 4 = .ok (.iload_n 1, 1) := by decide +kernel
theorem dX3_foundAt_5 : decode cX3_foundAt 5 = .ok (.aload_n 0, 1) := by decide +kernel
theorem dX3_foundAt_6 : decode cX3_foundAt 6 = .ok (.getfield 10, 3) := by decide +kernel
theorem dX3_foundAt_9 : decode cX3_foundAt 9 = .ok (.arraylength, 1) := by decide +kernel
theorem dX3_foundAt_10 : decode cX3_foundAt 10 = .ok (.if_icmp .ge 12, 3) := by decide +kernel
theorem dX3_foundAt_13 : decode cX3_foundAt 13 = .ok (.aload_n 0, 1) := by decide +kernel
theorem dX3_foundAt_14 : decode cX3_foundAt 14 = .ok (.getfield 10, 3) := by decide +kernel
theorem dX3_foundAt_17 : decode cX3_foundAt 17 = .ok (.iload_n 1, 1) := by decide +kernel
theorem dX3_foundAt_18 : decode cX3_foundAt 18 = .ok (.iaload, 1) := by decide +kernel
theorem dX3_foundAt_19 : decode cX3_foundAt 19 = .ok (.goto 4, 3) := by decide +kernel
theorem dX3_foundAt_22 : decode cX3_foundAt 22 = .ok (.iconst 0, 1) := by decide +kernel
theorem dX3_foundAt_23 : decode cX3_foundAt 23 = .ok (.istore_n 2, 1) := by decide +kernel
theorem dX3_foundAt_24 : decode cX3_foundAt 24 = .ok (.iload_n 2, 1) := by decide +kernel
theorem dX3_foundAt_25 : decode cX3_foundAt 25 = .ok (.bipush 13, 2) := by decide +kernel
theorem dX3_foundAt_27 : decode cX3_foundAt 27 = .ok (.ishr, 1) := by decide +kernel
theorem dX3_foundAt_28 : decode cX3_foundAt 28 = .ok (.aload_n 0, 1) := by decide +kernel
theorem dX3_foundAt_29 : decode cX3_foundAt 29 = .ok (.getfield 26, 3) := by decide +kernel
theorem dX3_foundAt_32 : decode cX3_foundAt 32 = .ok (.if_icmp .ne 7, 3) := by decide +kernel
theorem dX3_foundAt_35 : decode cX3_foundAt 35 = .ok (.iload_n 2, 1) := by decide +kernel
theorem dX3_foundAt_36 : decode cX3_foundAt 36 = .ok (.goto 4, 3) := by decide +kernel
theorem dX3_foundAt_39 : decode cX3_foundAt 39 = .ok (.iconst 0, 1) := by decide +kernel
theorem dX3_foundAt_40 : decode cX3_foundAt 40 = .ok (.ireturn, 1) := by decide +kernel
theorem dX3_valueAt_0 : decode cX3_valueAt 0 = .ok (.aload_n 0, 1) := by decide +kernel
theorem dX3_valueAt_1 : decode cX3_valueAt 1 = .ok (.iload_n 1, 1) := by decide +kernel
theorem dX3_valueAt_2 : decode cX3_valueAt 2 = .ok (.invokevirtual 93, 3) := by decide +kernel
theorem dX3_valueAt_5 : decode cX3_valueAt 5 = .ok (.bipush 63, 2) := by decide +kernel
theorem dX3_valueAt_7 : decode cX3_valueAt 7 = .ok (.iand, 1) := by decide +kernel
theorem dX3_valueAt_8 : decode cX3_valueAt 8 = .ok (.ireturn, 1) := by decide +kernel
theorem dX3_isWonAt_0 : decode cX3_isWonAt 0 = .ok (.aload_n 0, 1) := by decide +kernel
theorem dX3_isWonAt_1 : decode cX3_isWonAt 1 = .ok (.iload_n 1, 1) := by decide +kernel
theorem dX3_isWonAt_2 : decode cX3_isWonAt 2 = .ok (.invokevirtual 93, 3) := by decide +kernel
theorem dX3_isWonAt_5 : decode cX3_isWonAt 5 = .ok (.sipush 4096, 3) := by decide +kernel
theorem dX3_isWonAt_8 : decode cX3_isWonAt 8 = .ok (.iand, 1) := by decide +kernel
theorem dX3_isWonAt_9 : decode cX3_isWonAt 9 = .ok (.ifCond .eq 7, 3) := by decide +kernel
theorem dX3_isWonAt_12 : decode cX3_isWonAt 12 = .ok (.iconst 1, 1) := by decide +kernel
theorem dX3_isWonAt_13 : decode cX3_isWonAt 13 = .ok (.goto 4, 3) := by decide +kernel
theorem dX3_isWonAt_16 : decode cX3_isWonAt 16 = .ok (.iconst 0, 1) := by decide +kernel
theorem dX3_isWonAt_17 : decode cX3_isWonAt 17 = .ok (.ireturn, 1) := by decide +kernel
theorem dX3_lengthAt_0 : decode cX3_lengthAt 0 = .ok (.aload_n 0, 1) := by decide +kernel
theorem dX3_lengthAt_1 : decode cX3_lengthAt 1 = .ok (.iload_n 1, 1) := by decide +kernel
theorem dX3_lengthAt_2 : decode cX3_lengthAt 2 = .ok (.invokevirtual 93, 3) := by decide +kernel
theorem dX3_lengthAt_5 : decode cX3_lengthAt 5 = .ok (.bipush 6, 2) := by decide +kernel
theorem dX3_lengthAt_7 : decode cX3_lengthAt 7 = .ok (.ishr, 1) := by decide +kernel
theorem dX3_lengthAt_8 : decode cX3_lengthAt 8 = .ok (.bipush 63, 2) := by decide +kernel
theorem dX3_lengthAt_10 : decode cX3_lengthAt 10 = .ok (.iand, 1) := by decide +kernel
theorem dX3_lengthAt_11 : decode cX3_lengthAt 11 = .ok (.ireturn, 1) := by decide +kernel
theorem dX3_countLostBelow_0 : decode cX3_countLostBelow 0 = .ok (.iconst 0, 1) := by decide +kernel
theorem dX3_countLostBelow_1 : decode cX3_countLostBelow 1 = .ok (.istore_n 2, 1) := by decide +kernel
theorem dX3_countLostBelow_2 : decode cX3_countLostBelow 2 = .ok (.iload_n 1, 1) := by decide +kernel
theorem dX3_countLostBelow_3 : decode cX3_countLostBelow 3 = .ok (.ldc 129, 2) := by decide +kernel
theorem dX3_countLostBelow_5 : decode cX3_countLostBelow 5 = .ok (.iand, 1) := by decide +kernel
theorem dX3_countLostBelow_6 : decode cX3_countLostBelow 6 = .ok (.istore_n 3, 1) := by decide +kernel
theorem dX3_countLostBelow_7 : decode cX3_countLostBelow 7 = .ok (.iload_n 1, 1) := by decide +kernel
theorem dX3_countLostBelow_8 : decode cX3_countLostBelow 8 = .ok (.invokestatic 100, 3) := by decide +kernel
theorem dX3_countLostBelow_11 : decode cX3_countLostBelow 11 = .ok (.istore 4, 2) := by decide +kernel
theorem dX3_countLostBelow_13 : decode cX3_countLostBelow 13 = .ok (.iload 4, 2) := by decide +kernel
theorem dX3_countLostBelow_15 : decode cX3_countLostBelow 15 = .ok (.ifCond .le 26, 3) := by decide +kernel
theorem dX3_countLostBelow_18 : decode cX3_countLostBelow 18 = .ok (.aload_n 0, 1) := by decide +kernel
theorem dX3_countLostBelow_19 : decode cX3_countLostBelow 19 = .ok (.iload_n 3, 1) := by decide +kernel
theorem dX3_countLostBelow_20 : decode cX3_countLostBelow 20 = .ok (.invokevirtual 130, 3) := by decide +kernel
theorem dX3_countLostBelow_23 : decode cX3_countLostBelow 23 = .ok (.ifCond .ne 6, 3) := by decide +kernel
theorem dX3_countLostBelow_26 : decode cX3_countLostBelow 26 = .ok (.iinc 2 1, 3) := by decide +kernel
theorem dX3_countLostBelow_29 : decode cX3_countLostBelow 29 = .ok (.iload_n 3, 1) := by decide +kernel
theorem dX3_countLostBelow_30 : decode cX3_countLostBelow 30 = .ok (.iload_n 1, 1) := by decide +kernel
theorem dX3_countLostBelow_31 : decode cX3_countLostBelow 31 = .ok (.invokestatic 109, 3) := by decide +kernel
theorem dX3_countLostBelow_34 : decode cX3_countLostBelow 34 = .ok (.istore_n 3, 1) := by decide +kernel
theorem dX3_countLostBelow_35 : decode cX3_countLostBelow 35 = .ok (.iinc 4 (-1), 3) := by decide +kernel
theorem dX3_countLostBelow_38 : decode cX3_countLostBelow 38 = .ok (.goto (-25), 3) := by decide +kernel
theorem dX3_countLostBelow_41 : decode cX3_countLostBelow 41 = .ok (.iload_n 2, 1) := by decide +kernel
theorem dX3_countLostBelow_42 : decode cX3_countLostBelow 42 = .ok (.ireturn, 1) := by decide +kernel
theorem dX4_init_0 : decode cX4_init 0 = .ok (.aload_n 0, 1) := by decide +kernel
theorem dX4_init_1 : decode cX4_init 1 = .ok (.invokespecial 3, 3) := by decide +kernel
theorem dX4_init_4 : decode cX4_init 4 = .ok (.aload_n 0, 1) := by decide +kernel
theorem dX4_init_5 : decode cX4_init 5 = .ok (.bipush 40, 2) := by decide +kernel
theorem dX4_init_7 : decode cX4_init 7 = .ok (.newarray .int, 2) := by decide +kernel
theorem dX4_init_9 : decode cX4_init 9 = .ok (.putfield 9, 3) := by decide +kernel
theorem dX4_init_12 : decode cX4_init 12 = .ok (.return_, 1) := by decide +kernel
theorem dX4_clear_0 : decode cX4_clear 0 = .ok (.aload_n 0, 1) := by decide +kernel
theorem dX4_clear_1 : decode cX4_clear 1 = .ok (.iconst 0, 1) := by decide +kernel
theorem dX4_clear_2 : decode cX4_clear 2 = .ok (.putfield 15, 3) := by decide +kernel
theorem dX4_clear_5 : decode cX4_clear 5 = .ok (.aload_n 0, 1) := by decide +kernel
theorem dX4_clear_6 : decode cX4_clear 6 = .ok (.iconst 0, 1) := by decide +kernel
theorem dX4_clear_7 : decode cX4_clear 7 = .ok (.putfield 19, 3) := by decide +kernel
theorem dX4_clear_10 : decode cX4_clear 10 = .ok (.aload_n 0, 1) := by decide +kernel
theorem dX4_clear_11 : decode cX4_clear 11 = .ok (.iconst 0, 1) := by decide +kernel
theorem dX4_clear_12 : decode cX4_clear 12 = .ok (.putfield 22, 3) := by decide +kernel
theorem dX4_clear_15 : decode cX4_clear 15 = .ok (.aload_n 0, 1) := by decide +kernel
theorem dX4_clear_16 : decode cX4_clear 16 = .ok (.iconst 0, 1) := by decide +kernel
theorem dX4_clear_17 : decode cX4_clear 17 = .ok (.putfield 25, 3) := by decide +kernel
theorem dX4_clear_20 : decode cX4_clear 20 = .ok (.aload_n 0, 1) := by decide +kernel
theorem dX4_clear_21 : decode cX4_clear 21 = .ok (.iconst 0, 1) := by decide +kernel
theorem dX4_clear_22 : decode cX4_clear 22 = .ok (.putfield 29, 3) := by decide +kernel
theorem dX4_clear_25 : decode cX4_clear 25 = .ok (.return_, 1) := by decide +kernel
theorem dX4_copyFrom_0 : decode cX4_copyFrom 0 = .ok (.aload_n 0, 1) := by decide +kernel
theorem dX4_copyFrom_1 : decode cX4_copyFrom 1 = .ok (.aload_n 1, 1) := by decide +kernel
theorem dX4_copyFrom_2 : decode cX4_copyFrom 2 = .ok (.getfield 15, 3) := by decide +kernel
theorem dX4_copyFrom_5 : decode cX4_copyFrom 5 = .ok (.putfield 15, 3) := by decide +kernel
theorem dX4_copyFrom_8 : decode cX4_copyFrom 8 = .ok (.aload_n 0, 1) := by decide +kernel
theorem dX4_copyFrom_9 : decode cX4_copyFrom 9 = .ok (.aload_n 1, 1) := by decide +kernel
theorem dX4_copyFrom_10 : decode cX4_copyFrom 10 = .ok (.getfield 19, 3) := by decide +kernel
theorem dX4_copyFrom_13 : decode cX4_copyFrom 13 = .ok (.putfield 19, 3) := by decide +kernel
theorem dX4_copyFrom_16 : decode cX4_copyFrom 16 = .ok (.aload_n 0, 1) := by decide +kernel
theorem dX4_copyFrom_17 : decode cX4_copyFrom 17 = .ok (.aload_n 1, 1) := by decide +kernel
theorem dX4_copyFrom_18 : decode cX4_copyFrom 18 = .ok (.getfield 22, 3) := by decide +kernel
theorem dX4_copyFrom_21 : decode cX4_copyFrom 21 = .ok (.putfield 22, 3) := by decide +kernel
theorem dX4_copyFrom_24 : decode cX4_copyFrom 24 = .ok (.aload_n 0, 1) := by decide +kernel
theorem dX4_copyFrom_25 : decode cX4_copyFrom 25 = .ok (.aload_n 1, 1) := by decide +kernel
theorem dX4_copyFrom_26 : decode cX4_copyFrom 26 = .ok (.getfield 25, 3) := by decide +kernel
theorem dX4_copyFrom_29 : decode cX4_copyFrom 29 = .ok (.putfield 25, 3) := by decide +kernel
theorem dX4_copyFrom_32 : decode cX4_copyFrom 32 = .ok (.aload_n 0, 1) := by decide +kernel
theorem dX4_copyFrom_33 : decode cX4_copyFrom 33 = .ok (.aload_n 1, 1) := by decide +kernel
theorem dX4_copyFrom_34 : decode cX4_copyFrom 34 = .ok (.getfield 29, 3) := by decide +kernel
theorem dX4_copyFrom_37 : decode cX4_copyFrom 37 = .ok (.putfield 29, 3) := by decide +kernel
theorem dX4_copyFrom_40 : decode cX4_copyFrom 40 = .ok (.aload_n 1, 1) := by decide +kernel
theorem dX4_copyFrom_41 : decode cX4_copyFrom 41 = .ok (.getfield 9, 3) := by decide +kernel
theorem dX4_copyFrom_44 : decode cX4_copyFrom 44 = .ok (.iconst 0, 1) := by decide +kernel
theorem dX4_copyFrom_45 : decode cX4_copyFrom 45 = .ok (.aload_n 0, 1) := by decide +kernel
theorem dX4_copyFrom_46 : decode cX4_copyFrom 46 = .ok (.getfield 9, 3) := by decide +kernel
theorem dX4_copyFrom_49 : decode cX4_copyFrom 49 = .ok (.iconst 0, 1) := by decide +kernel
theorem dX4_copyFrom_50 : decode cX4_copyFrom 50 = .ok (.bipush 40, 2) := by decide +kernel
theorem dX4_copyFrom_52 : decode cX4_copyFrom 52 = .ok (.invokestatic 32, 3) := by decide +kernel
theorem dX4_copyFrom_55 : decode cX4_copyFrom 55 = .ok (.return_, 1) := by decide +kernel
theorem dX4_addLast_0 : decode cX4_addLast 0 = .ok (.aload_n 0, 1) := by decide +kernel
theorem dX4_addLast_1 : decode cX4_addLast 1 = .ok (.aload_n 0, 1) := by decide +kernel
theorem dX4_addLast_2 : decode cX4_addLast 2 = .ok (.getfield 19, 3) := by decide +kernel
theorem dX4_addLast_5 : decode cX4_addLast 5 = .ok (.aload_n 0, 1) := by decide +kernel
theorem dX4_addLast_6 : decode cX4_addLast 6 = .ok (.getfield 15, 3) := by decide +kernel
theorem dX4_addLast_9 : decode cX4_addLast 9 = .ok (.iload_n 1, 1) := by decide +kernel
theorem dX4_addLast_10 : decode cX4_addLast 10 = .ok (.invokestatic 38, 3) := by decide +kernel
theorem dX4_addLast_13 : decode cX4_addLast 13 = .ok (.putfield 19, 3) := by decide +kernel
theorem dX4_addLast_16 : decode cX4_addLast 16 = .ok (.aload_n 0, 1) := by decide +kernel
theorem dX4_addLast_17 : decode cX4_addLast 17 = .ok (.aload_n 0, 1) := by decide +kernel
theorem dX4_addLast_18 : decode cX4_addLast 18 = .ok (.getfield 22, 3) := by decide +kernel
theorem dX4_addLast_21 : decode cX4_addLast 21 = .ok (.aload_n 0, 1) := by decide +kernel
theorem dX4_addLast_22 : decode cX4_addLast 22 = .ok (.getfield 15, 3) := by decide +kernel
theorem dX4_addLast_25 : decode cX4_addLast 25 = .ok (.iload_n 2, 1) := by decide +kernel
theorem dX4_addLast_26 : decode cX4_addLast 26 = .ok (.invokestatic 38, 3) := by decide +kernel
theorem dX4_addLast_29 : decode cX4_addLast 29 = .ok (.putfield 22, 3) := by decide +kernel
theorem dX4_addLast_32 : decode cX4_addLast 32 = .ok (.aload_n 0, 1) := by decide +kernel
theorem dX4_addLast_33 : decode cX4_addLast 33 = .ok (.dup, 1) := by decide +kernel
theorem dX4_addLast_34 : decode cX4_addLast 34 = .ok (.getfield 15, 3) := by decide +kernel
theorem dX4_addLast_37 : decode cX4_addLast 37 = .ok (.iconst 1, 1) := by decide +kernel
theorem dX4_addLast_38 : decode cX4_addLast 38 = .ok (.iadd, 1) := by decide +kernel
theorem dX4_addLast_39 : decode cX4_addLast 39 = .ok (.putfield 15, 3) := by decide +kernel
theorem dX4_addLast_42 : decode cX4_addLast 42 = .ok (.aload_n 0, 1) := by decide +kernel
theorem dX4_addLast_43 : decode cX4_addLast 43 = .ok (.getfield 15, 3) := by decide +kernel
theorem dX4_addLast_46 : decode cX4_addLast 46 = .ok (.iconst 1, 1) := by decide +kernel
theorem dX4_addLast_47 : decode cX4_addLast 47 = .ok (.isub, 1) := by decide +kernel
theorem dX4_addLast_48 : decode cX4_addLast 48 = .ok (.ireturn, 1) := by decide +kernel
theorem dX4_dropHeap_0 : decode cX4_dropHeap 0 = .ok (.aload_n 0, 1) := by decide +kernel
theorem dX4_dropHeap_1 : decode cX4_dropHeap 1 = .ok (.aload_n 0, 1) := by decide +kernel
theorem dX4_dropHeap_2 : decode cX4_dropHeap 2 = .ok (.getfield 19, 3) := by decide +kernel
theorem dX4_dropHeap_5 : decode cX4_dropHeap 5 = .ok (.iload_n 1, 1) := by decide +kernel
theorem dX4_dropHeap_6 : decode cX4_dropHeap 6 = .ok (.invokestatic 42, 3) := by decide +kernel
theorem dX4_dropHeap_9 : decode cX4_dropHeap 9 = .ok (.putfield 19, 3) := by decide +kernel
theorem dX4_dropHeap_12 : decode cX4_dropHeap 12 = .ok (.aload_n 0, 1) := by decide +kernel
theorem dX4_dropHeap_13 : decode cX4_dropHeap 13 = .ok (.aload_n 0, 1) := by decide +kernel
theorem dX4_dropHeap_14 : decode cX4_dropHeap 14 = .ok (.getfield 22, 3) := by decide +kernel
theorem dX4_dropHeap_17 : decode cX4_dropHeap 17 = .ok (.iload_n 1, 1) := by decide +kernel
theorem dX4_dropHeap_18 : decode cX4_dropHeap 18 = .ok (.invokestatic 42, 3) := by decide +kernel
theorem dX4_dropHeap_21 : decode cX4_dropHeap 21 = .ok (.putfield 22, 3) := by decide +kernel
theorem dX4_dropHeap_24 : decode cX4_dropHeap 24 = .ok (.aload_n 0, 1) := by decide +kernel
theorem dX4_dropHeap_25 : decode cX4_dropHeap 25 = .ok (.dup, 1) := by decide +kernel
theorem dX4_dropHeap_26 : decode cX4_dropHeap 26 = .ok (.getfield 15, 3) := by decide +kernel
theorem dX4_dropHeap_29 : decode cX4_dropHeap 29 = .ok (.iconst 1, 1) := by decide +kernel
theorem dX4_dropHeap_30 : decode cX4_dropHeap 30 = .ok (.isub, 1) := by decide +kernel
theorem dX4_dropHeap_31 : decode cX4_dropHeap 31 = .ok (.putfield 15, 3) := by decide +kernel
theorem dX4_dropHeap_34 : decode cX4_dropHeap 34 = .ok (.return_, 1) := by decide +kernel
theorem dX4_addPlayed_0 : decode cX4_addPlayed 0 = .ok (.aload_n 0, 1) := by decide +kernel
theorem dX4_addPlayed_1 : decode cX4_addPlayed 1 = .ok (.getfield 29, 3) := by decide +kernel
theorem dX4_addPlayed_4 : decode cX4_addPlayed 4 = .ok (.ifCond .lt 32, 3) := by decide +kernel
theorem dX4_addPlayed_7 : decode cX4_addPlayed 7 = .ok (.aload_n 0, 1) := by decide +kernel
theorem dX4_addPlayed_8 : decode cX4_addPlayed 8 = .ok (.getfield 29, 3) := by decide +kernel
theorem dX4_addPlayed_11 : decode cX4_addPlayed 11 = .ok (.bipush 40, 2) := by decide +kernel
theorem dX4_addPlayed_13 : decode cX4_addPlayed 13 = .ok (.if_icmp .ge 23, 3) := by decide +kernel
theorem dX4_addPlayed_16 : decode cX4_addPlayed 16 = .ok (.aload_n 0, 1) := by decide +kernel
theorem dX4_addPlayed_17 : decode cX4_addPlayed 17 = .ok (.getfield 9, 3) := by decide +kernel
theorem dX4_addPlayed_20 : decode cX4_addPlayed 20 = .ok (.aload_n 0, 1) := by decide +kernel
theorem dX4_addPlayed_21 : decode cX4_addPlayed 21 = .ok (.getfield 29, 3) := by decide +kernel
theorem dX4_addPlayed_24 : decode cX4_addPlayed 24 = .ok (.iload_n 1, 1) := by decide +kernel
theorem dX4_addPlayed_25 : decode cX4_addPlayed 25 = .ok (.iastore, 1) := by decide +kernel
theorem dX4_addPlayed_26 : decode cX4_addPlayed 26 = .ok (.aload_n 0, 1) := by decide +kernel
theorem dX4_addPlayed_27 : decode cX4_addPlayed 27 = .ok (.dup, 1) := by decide +kernel
theorem dX4_addPlayed_28 : decode cX4_addPlayed 28 = .ok (.getfield 29, 3) := by decide +kernel
theorem dX4_addPlayed_31 : decode cX4_addPlayed 31 = .ok (.iconst 1, 1) := by decide +kernel
theorem dX4_addPlayed_32 : decode cX4_addPlayed 32 = .ok (.iadd, 1) := by decide +kernel
theorem dX4_addPlayed_33 : decode cX4_addPlayed 33 = .ok (.putfield 29, 3) := by decide +kernel
theorem dX4_addPlayed_36 : decode cX4_addPlayed 36 = .ok (.return_, 1) := by decide +kernel
theorem dX4_playedAt_0 : decode cX4_playedAt 0 = .ok (.iload_n 1, 1) := by decide +kernel
theorem dX4_playedAt_1 : decode cX4_playedAt 1 = .ok (.ifCond .lt 18, 3) := by decide +kernel
theorem dX4_playedAt_4 : decode cX4_playedAt 4 = .ok (.iload_n 1, 1) := by decide +kernel
theorem dX4_playedAt_5 : decode cX4_playedAt 5 = .ok (.bipush 40, 2) := by decide +kernel
theorem dX4_playedAt_7 : decode cX4_playedAt 7 = .ok (.if_icmp .ge 12, 3) := by decide +kernel
theorem dX4_playedAt_10 : decode cX4_playedAt 10 = .ok (.aload_n 0, 1) := by decide +kernel
theorem dX4_playedAt_11 : decode cX4_playedAt 11 = .ok (.getfield 9, 3) := by decide +kernel
theorem dX4_playedAt_14 : decode cX4_playedAt 14 = .ok (.iload_n 1, 1) := by decide +kernel
theorem dX4_playedAt_15 : decode cX4_playedAt 15 = .ok (.iaload, 1) := by decide +kernel
theorem dX4_playedAt_16 : decode cX4_playedAt 16 = .ok (.goto 4, 3) := by decide +kernel
theorem dX4_playedAt_19 : decode cX4_playedAt 19 = .ok (.iconst 0, 1) := by decide +kernel
theorem dX4_playedAt_20 : decode cX4_playedAt 20 = .ok (.ireturn, 1) := by decide +kernel
theorem dX5_init_0 : decode cX5_init 0 = .ok (.aload_n 0, 1) := by decide +kernel
theorem dX5_init_1 : decode cX5_init 1 = .ok (.invokespecial 3, 3) := by decide +kernel
theorem dX5_init_4 : decode cX5_init 4 = .ok (.aload_n 0, 1) := by decide +kernel
theorem dX5_init_5 : decode cX5_init 5 = .ok (.sipush 400, 3) := by decide +kernel
theorem dX5_init_8 : decode cX5_init 8 = .ok (.newarray .byte, 2) := by decide +kernel
theorem dX5_init_10 : decode cX5_init 10 = .ok (.putfield 9, 3) := by decide +kernel
theorem dX5_init_13 : decode cX5_init 13 = .ok (.aload_n 0, 1) := by decide +kernel
theorem dX5_init_14 : decode cX5_init 14 = .ok (.iconst 0, 1) := by decide +kernel
theorem dX5_init_15 : decode cX5_init 15 = .ok (.putfield 15, 3) := by decide +kernel
theorem dX5_init_18 : decode cX5_init 18 = .ok (.aload_n 0, 1) := by decide +kernel
theorem dX5_init_19 : decode cX5_init 19 = .ok (.new 19, 3) := by decide +kernel
theorem dX5_init_22 : decode cX5_init 22 = .ok (.dup, 1) := by decide +kernel
theorem dX5_init_23 : decode cX5_init 23 = .ok (.invokespecial 21, 3) := by decide +kernel
theorem dX5_init_26 : decode cX5_init 26 = .ok (.putfield 22, 3) := by decide +kernel
theorem dX5_init_29 : decode cX5_init 29 = .ok (.return_, 1) := by decide +kernel
theorem dX5_addBytes_0 : decode cX5_addBytes 0 = .ok (.bipush 24, 2) := by decide +kernel
theorem dX5_addBytes_2 : decode cX5_addBytes 2 = .ok (.istore_n 2, 1) := by decide +kernel
theorem dX5_addBytes_3 : decode cX5_addBytes 3 = .ok (.iload_n 2, 1) := by decide +kernel
theorem dX5_addBytes_4 : decode cX5_addBytes 4 = .ok (.ifCond .lt 44, 3) := by decide +kernel
theorem dX5_addBytes_7 : decode cX5_addBytes 7 = .ok (.aload_n 0, 1) := by decide +kernel
theorem dX5_addBytes_8 : decode cX5_addBytes 8 = .ok (.getfield 15, 3) := by decide +kernel
theorem dX5_addBytes_11 : decode cX5_addBytes 11 = .ok (.aload_n 0, 1) := by decide +kernel
theorem dX5_addBytes_12 : decode cX5_addBytes 12 = .ok (.getfield 9, 3) := by decide +kernel
theorem dX5_addBytes_15 : decode cX5_addBytes 15 = .ok (.arraylength, 1) := by decide +kernel
theorem dX5_addBytes_16 : decode cX5_addBytes 16 = .ok (.if_icmp .ge 32, 3) := by decide +kernel
theorem dX5_addBytes_19 : decode cX5_addBytes 19 = .ok (.aload_n 0, 1) := by decide +kernel
theorem dX5_addBytes_20 : decode cX5_addBytes 20 = .ok (.getfield 9, 3) := by decide +kernel
theorem dX5_addBytes_23 : decode cX5_addBytes 23 = .ok (.aload_n 0, 1) := by decide +kernel
theorem dX5_addBytes_24 : decode cX5_addBytes 24 = .ok (.getfield 15, 3) := by decide +kernel
theorem dX5_addBytes_27 : decode cX5_addBytes 27 = .ok (.iload_n 1, 1) := by decide +kernel
theorem dX5_addBytes_28 : decode cX5_addBytes 28 = .ok (.iload_n 2, 1) := by decide +kernel
theorem dX5_addBytes_29 : decode cX5_addBytes 29 = .ok (.ishr, 1) := by decide +kernel
theorem dX5_addBytes_30 : decode cX5_addBytes 30 = .ok (.i2b, 1) := by decide +kernel
theorem dX5_addBytes_31 : decode cX5_addBytes 31 = .ok (.bastore, 1) := by decide +kernel
theorem dX5_addBytes_32 : decode cX5_addBytes 32 = .ok (.aload_n 0, 1) := by decide +kernel
theorem dX5_addBytes_33 : decode cX5_addBytes 33 = .ok (.dup, 1) := by decide +kernel
theorem dX5_addBytes_34 : decode cX5_addBytes 34 = .ok (.getfield 15, 3) := by decide +kernel
theorem dX5_addBytes_37 : decode cX5_addBytes 37 = .ok (.iconst 1, 1) := by decide +kernel
theorem dX5_addBytes_38 : decode cX5_addBytes 38 = .ok (.iadd, 1) := by decide +kernel
theorem dX5_addBytes_39 : decode cX5_addBytes 39 = .ok (.putfield 15, 3) := by decide +kernel
theorem dX5_addBytes_42 : decode cX5_addBytes 42 = .ok (.iinc 2 (-8), 3) := by decide +kernel
theorem dX5_addBytes_45 : decode cX5_addBytes 45 = .ok (.goto (-42), 3) := by decide +kernel
theorem dX5_addBytes_48 : decode cX5_addBytes 48 = .ok (.return_, 1) := by decide +kernel
theorem dX5_readText_0 : decode cX5_readText 0 = .ok (.aload_n 0, 1) := by decide +kernel
theorem dX5_readText_1 : decode cX5_readText 1 = .ok (.iload_n 1, 1) := by decide +kernel
theorem dX5_readText_2 : decode cX5_readText 2 = .ok (.aload_n 0, 1) := by decide +kernel
theorem dX5_readText_3 : decode cX5_readText 3 = .ok (.getfield 9, 3) := by decide +kernel
theorem dX5_readText_6 : decode cX5_readText 6 = .ok (.arraylength, 1) := by decide +kernel
theorem dX5_readText_7 : decode cX5_readText 7 = .ok (.invokestatic 26, 3) := by decide +kernel
theorem dX5_readText_10 : decode cX5_readText 10 = .ok (.putfield 32, 3) := by decide +kernel
theorem dX5_readText_13 : decode cX5_readText 13 = .ok (.aload_n 0, 1) := by decide +kernel
theorem dX5_readText_14 : decode cX5_readText 14 = .ok (.iconst 0, 1) := by decide +kernel
theorem dX5_readText_15 : decode cX5_readText 15 = .ok (.putfield 35, 3) := by decide +kernel
theorem dX5_readText_18 : decode cX5_readText 18 = .ok (.aload_n 0, 1) := by decide +kernel
theorem dX5_readText_19 : decode cX5_readText 19 = .ok (.getfield 22, 3) := by decide +kernel
theorem dX5_readText_22 : decode cX5_readText 22 = .ok (.invokevirtual 38, 3) := by decide +kernel
theorem dX5_readText_25 : decode cX5_readText 25 = .ok (.aload_n 0, 1) := by decide +kernel
theorem dX5_readText_26 : decode cX5_readText 26 = .ok (.iconst 0, 1) := by decide +kernel
theorem dX5_readText_27 : decode cX5_readText 27 = .ok (.putfield 41, 3) := by decide +kernel
theorem dX5_readText_30 : decode cX5_readText 30 = .ok (.iconst 0, 1) := by decide +kernel
theorem dX5_readText_31 : decode cX5_readText 31 = .ok (.istore_n 2, 1) := by decide +kernel
theorem dX5_readText_32 : decode cX5_readText 32 = .ok (.iload_n 2, 1) := by decide +kernel
theorem dX5_readText_33 : decode cX5_readText 33 = .ok (.aload_n 0, 1) := by decide +kernel
theorem dX5_readText_34 : decode cX5_readText 34 = .ok (.getfield 32, 3) := by decide +kernel
theorem dX5_readText_37 : decode cX5_readText 37 = .ok (.if_icmp .gt 45, 3) := by decide +kernel
theorem dX5_readText_40 : decode cX5_readText 40 = .ok (.aload_n 0, 1) := by decide +kernel
theorem dX5_readText_41 : decode cX5_readText 41 = .ok (.invokevirtual 45, 3) := by decide +kernel
theorem dX5_readText_44 : decode cX5_readText 44 = .ok (.aload_n 0, 1) := by decide +kernel
theorem dX5_readText_45 : decode cX5_readText 45 = .ok (.getfield 48, 3) := by decide +kernel
theorem dX5_readText_48 : decode cX5_readText 48 = .ok (.ifCond .ne 5, 3) := by decide +kernel
theorem dX5_readText_51 : decode cX5_readText 51 = .ok (.iconst 1, 1) := by decide +kernel
theorem dX5_readText_52 : decode cX5_readText 52 = .ok (.ireturn, 1) := by decide +kernel
theorem dX5_readText_53 : decode cX5_readText 53 = .ok (.aload_n 0, 1) := by decide +kernel
theorem dX5_readText_54 : decode cX5_readText 54 = .ok (.invokevirtual 51, 3) := by decide +kernel
theorem dX5_readText_57 : decode cX5_readText 57 = .ok (.ifCond .ne 5, 3) := by decide +kernel
theorem dX5_readText_60 : decode cX5_readText 60 = .ok (.iconst 0, 1) := by decide +kernel
theorem dX5_readText_61 : decode cX5_readText 61 = .ok (.ireturn, 1) := by decide +kernel
theorem dX5_readText_62 : decode cX5_readText 62 = .ok (.aload_n 0, 1) := by decide +kernel
theorem dX5_readText_63 : decode cX5_readText 63 = .ok (.getfield 48, 3) := by decide +kernel
theorem dX5_readText_66 : decode cX5_readText 66 = .ok (.iconst 3, 1) := by decide +kernel
theorem dX5_readText_67 : decode cX5_readText 67 = .ok (.if_icmp .eq 9, 3) := by decide +kernel
theorem dX5_readText_70 : decode cX5_readText 70 = .ok (.aload_n 0, 1) := by decide +kernel
theorem dX5_readText_71 : decode cX5_readText 71 = .ok (.iconst 1, 1) := by decide +kernel
theorem dX5_readText_72 : decode cX5_readText 72 = .ok (.invokevirtual 55, 3) := by decide +kernel
theorem dX5_readText_75 : decode cX5_readText 75 = .ok (.ireturn, 1) := by decide +kernel
theorem dX5_readText_76 : decode cX5_readText 76 = .ok (.iinc 2 1, 3) := by decide +kernel
theorem dX5_readText_79 : decode cX5_readText 79 = .ok (.goto (-47), 3) := by decide +kernel
theorem dX5_readText_82 : decode cX5_readText 82 = .ok (.iconst 1, 1) := by decide +kernel
theorem dX5_readText_83 : decode cX5_readText 83 = .ok (.ireturn, 1) := by decide +kernel
theorem dX5_readStatement_0 : decode cX5_readStatement 0 = .ok (.aload_n 0, 1) := by decide +kernel
theorem dX5_readStatement_1 : decode cX5_readStatement 1 = .ok (.ldc 59, 2) := by decide +kernel
theorem dX5_readStatement_3 : decode cX5_readStatement 3 = .ok (.invokevirtual 61, 3) := by decide +kernel
theorem dX5_readStatement_6 : decode cX5_readStatement 6 = .ok (.ifCond .eq 8, 3) := by decide +kernel
theorem dX5_readStatement_9 : decode cX5_readStatement 9 = .ok (.aload_n 0, 1) := by decide +kernel
theorem dX5_readStatement_10 : decode cX5_readStatement 10 = .ok (.invokevirtual 65, 3) := by decide +kernel
theorem dX5_readStatement_13 : decode cX5_readStatement 13 = .ok (.ireturn, 1) := by decide +kernel
theorem dX5_readStatement_14 : decode cX5_readStatement 14 = .ok (.aload_n 0, 1) := by decide +kernel
theorem dX5_readStatement_15 : decode cX5_readStatement 15 = .ok (.ldc 68, 2) := by decide +kernel
theorem dX5_readStatement_17 : decode cX5_readStatement 17 = .ok (.invokevirtual 61, 3) := by decide +kernel
theorem dX5_readStatement_20 : decode cX5_readStatement 20 = .ok (.ifCond .eq 8, 3) := by decide +kernel
theorem dX5_readStatement_23 : decode cX5_readStatement 23 = .ok (.aload_n 0, 1) := by decide +kernel
theorem dX5_readStatement_24 : decode cX5_readStatement 24 = .ok (.invokevirtual 70, 3) := by decide +kernel
theorem dX5_readStatement_27 : decode cX5_readStatement 27 = .ok (.ireturn, 1) := by decide +kernel
theorem dX5_readStatement_28 : decode cX5_readStatement 28 = .ok (.aload_n 0, 1) := by decide +kernel
theorem dX5_readStatement_29 : decode cX5_readStatement 29 = .ok (.ldc 73, 2) := by decide +kernel
theorem dX5_readStatement_31 : decode cX5_readStatement 31 = .ok (.invokevirtual 61, 3) := by decide +kernel
theorem dX5_readStatement_34 : decode cX5_readStatement 34 = .ok (.ifCond .eq 8, 3) := by decide +kernel
theorem dX5_readStatement_37 : decode cX5_readStatement 37 = .ok (.aload_n 0, 1) := by decide +kernel
theorem dX5_readStatement_38 : decode cX5_readStatement 38 = .ok (.invokevirtual 75, 3) := by decide +kernel
theorem dX5_readStatement_41 : decode cX5_readStatement 41 = .ok (.ireturn, 1) := by decide +kernel
theorem dX5_readStatement_42 : decode cX5_readStatement 42 = .ok (.aload_n 0, 1) := by decide +kernel
theorem dX5_readStatement_43 : decode cX5_readStatement 43 = .ok (.ldc 78, 2) := by decide +kernel
theorem dX5_readStatement_45 : decode cX5_readStatement 45 = .ok (.invokevirtual 61, 3) := by decide +kernel
theorem dX5_readStatement_48 : decode cX5_readStatement 48 = .ok (.ifCond .eq 8, 3) := by decide +kernel
theorem dX5_readStatement_51 : decode cX5_readStatement 51 = .ok (.aload_n 0, 1) := by decide +kernel
theorem dX5_readStatement_52 : decode cX5_readStatement 52 = .ok (.invokevirtual 80, 3) := by decide +kernel
theorem dX5_readStatement_55 : decode cX5_readStatement 55 = .ok (.ireturn, 1) := by decide +kernel
theorem dX5_readStatement_56 : decode cX5_readStatement 56 = .ok (.aload_n 0, 1) := by decide +kernel
theorem dX5_readStatement_57 : decode cX5_readStatement 57 = .ok (.ldc 83, 2) := by decide +kernel
theorem dX5_readStatement_59 : decode cX5_readStatement 59 = .ok (.invokevirtual 61, 3) := by decide +kernel
theorem dX5_readStatement_62 : decode cX5_readStatement 62 = .ok (.ifCond .eq 8, 3) := by decide +kernel
theorem dX5_readStatement_65 : decode cX5_readStatement 65 = .ok (.aload_n 0, 1) := by decide +kernel
theorem dX5_readStatement_66 : decode cX5_readStatement 66 = .ok (.invokevirtual 85, 3) := by decide +kernel
theorem dX5_readStatement_69 : decode cX5_readStatement 69 = .ok (.ireturn, 1) := by decide +kernel
theorem dX5_readStatement_70 : decode cX5_readStatement 70 = .ok (.aload_n 0, 1) := by decide +kernel
theorem dX5_readStatement_71 : decode cX5_readStatement 71 = .ok (.iconst 1, 1) := by decide +kernel
theorem dX5_readStatement_72 : decode cX5_readStatement 72 = .ok (.invokevirtual 55, 3) := by decide +kernel
theorem dX5_readStatement_75 : decode cX5_readStatement 75 = .ok (.ireturn, 1) := by decide +kernel
theorem dX5_readRule_0 : decode cX5_readRule 0 = .ok (.aload_n 0, 1) := by decide +kernel
theorem dX5_readRule_1 : decode cX5_readRule 1 = .ok (.getfield 22, 3) := by decide +kernel
theorem dX5_readRule_4 : decode cX5_readRule 4 = .ok (.getfield 88, 3) := by decide +kernel
theorem dX5_readRule_7 : decode cX5_readRule 7 = .ok (.bipush 6, 2) := by decide +kernel
theorem dX5_readRule_9 : decode cX5_readRule 9 = .ok (.if_icmp .lt 9, 3) := by decide +kernel
theorem dX5_readRule_12 : decode cX5_readRule 12 = .ok (.aload_n 0, 1) := by decide +kernel
theorem dX5_readRule_13 : decode cX5_readRule 13 = .ok (.iconst 5, 1) := by decide +kernel
theorem dX5_readRule_14 : decode cX5_readRule 14 = .ok (.invokevirtual 55, 3) := by decide +kernel
theorem dX5_readRule_17 : decode cX5_readRule 17 = .ok (.ireturn, 1) := by decide +kernel
theorem dX5_readRule_18 : decode cX5_readRule 18 = .ok (.aload_n 0, 1) := by decide +kernel
theorem dX5_readRule_19 : decode cX5_readRule 19 = .ok (.invokevirtual 45, 3) := by decide +kernel
theorem dX5_readRule_22 : decode cX5_readRule 22 = .ok (.aload_n 0, 1) := by decide +kernel
theorem dX5_readRule_23 : decode cX5_readRule 23 = .ok (.invokevirtual 91, 3) := by decide +kernel
theorem dX5_readRule_26 : decode cX5_readRule 26 = .ok (.ifCond .ne 9, 3) := by decide +kernel
theorem dX5_readRule_29 : decode cX5_readRule 29 = .ok (.aload_n 0, 1) := by decide +kernel
theorem dX5_readRule_30 : decode cX5_readRule 30 = .ok (.iconst 1, 1) := by decide +kernel
theorem dX5_readRule_31 : decode cX5_readRule 31 = .ok (.invokevirtual 55, 3) := by decide +kernel
theorem dX5_readRule_34 : decode cX5_readRule 34 = .ok (.ireturn, 1) := by decide +kernel
theorem dX5_readRule_35 : decode cX5_readRule 35 = .ok (.aload_n 0, 1) := by decide +kernel
theorem dX5_readRule_36 : decode cX5_readRule 36 = .ok (.invokevirtual 94, 3) := by decide +kernel
theorem dX5_readRule_39 : decode cX5_readRule 39 = .ok (.lstore_n 1, 1) := by decide +kernel
theorem dX5_readRule_40 : decode cX5_readRule 40 = .ok (.aload_n 0, 1) := by decide +kernel
theorem dX5_readRule_41 : decode cX5_readRule 41 = .ok (.getfield 22, 3) := by decide +kernel
theorem dX5_readRule_44 : decode cX5_readRule 44 = .ok (.lload_n 1, 1) := by decide +kernel
theorem dX5_readRule_45 : decode cX5_readRule 45 = .ok (.invokevirtual 98, 3) := by decide +kernel
theorem dX5_readRule_48 : decode cX5_readRule 48 = .ok (.iconst (-1), 1) := by decide +kernel
theorem dX5_readRule_49 : decode cX5_readRule 49 = .ok (.if_icmp .eq 9, 3) := by decide +kernel
theorem dX5_readRule_52 : decode cX5_readRule 52 = .ok (.aload_n 0, 1) := by decide +kernel
theorem dX5_readRule_53 : decode cX5_readRule 53 = .ok (.iconst 2, 1) := by decide +kernel
theorem dX5_readRule_54 : decode cX5_readRule 54 = .ok (.invokevirtual 55, 3) := by decide +kernel
theorem dX5_readRule_57 : decode cX5_readRule 57 = .ok (.ireturn, 1) := by decide +kernel
theorem dX5_readRule_58 : decode cX5_readRule 58 = .ok (.aload_n 0, 1) := by decide +kernel
theorem dX5_readRule_59 : decode cX5_readRule 59 = .ok (.invokevirtual 45, 3) := by decide +kernel
theorem dX5_readRule_62 : decode cX5_readRule 62 = .ok (.aload_n 0, 1) := by decide +kernel
theorem dX5_readRule_63 : decode cX5_readRule 63 = .ok (.invokevirtual 102, 3) := by decide +kernel
theorem dX5_readRule_66 : decode cX5_readRule 66 = .ok (.istore_n 3, 1) := by decide +kernel
theorem dX5_readRule_67 : decode cX5_readRule 67 = .ok (.iload_n 3, 1) := by decide +kernel
theorem dX5_readRule_68 : decode cX5_readRule 68 = .ok (.iconst (-1), 1) := by decide +kernel
theorem dX5_readRule_69 : decode cX5_readRule 69 = .ok (.if_icmp .ne 9, 3) := by decide +kernel
theorem dX5_readRule_72 : decode cX5_readRule 72 = .ok (.aload_n 0, 1) := by decide +kernel
theorem dX5_readRule_73 : decode cX5_readRule 73 = .ok (.iconst 1, 1) := by decide +kernel
theorem dX5_readRule_74 : decode cX5_readRule 74 = .ok (.invokevirtual 55, 3) := by decide +kernel
theorem dX5_readRule_77 : decode cX5_readRule 77 = .ok (.ireturn, 1) := by decide +kernel
theorem dX5_readRule_78 : decode cX5_readRule 78 = .ok (.aload_n 0, 1) := by decide +kernel
theorem dX5_readRule_79 : decode cX5_readRule 79 = .ok (.invokevirtual 45, 3) := by decide +kernel
theorem dX5_readRule_82 : decode cX5_readRule 82 = .ok (.aload_n 0, 1) := by decide +kernel
theorem dX5_readRule_83 : decode cX5_readRule 83 = .ok (.lconst 0, 1) := by decide +kernel
theorem dX5_readRule_84 : decode cX5_readRule 84 = .ok (.putfield 106, 3) := by decide +kernel
theorem dX5_readRule_87 : decode cX5_readRule 87 = .ok (.iload_n 3, 1) := by decide +kernel
theorem dX5_readRule_88 : decode cX5_readRule 88 = .ok (.ifCond .ne 14, 3) := by decide +kernel
theorem dX5_readRule_91 : decode cX5_readRule 91 = .ok (.aload_n 0, 1) := by decide +kernel
theorem dX5_readRule_92 : decode cX5_readRule 92 = .ok (.bipush 60, 2) := by decide +kernel
theorem dX5_readRule_94 : decode cX5_readRule 94 = .ok (.invokevirtual 110, 3) := by decide +kernel
theorem dX5_readRule_97 : decode cX5_readRule 97 = .ok (.ifCond .ne 5, 3) := by decide +kernel
theorem dX5_readRule_100 : decode cX5_readRule 100 = .ok (.iconst 0, 1) := by decide +kernel
theorem dX5_readRule_101 : decode cX5_readRule 101 = .ok (.ireturn, 1) := by decide +kernel
theorem dX5_readRule_102 : decode cX5_readRule 102 = .ok (.aload_n 0, 1) := by decide +kernel
theorem dX5_readRule_103 : decode cX5_readRule 103 = .ok (.getfield 22, 3) := by decide +kernel
theorem dX5_readRule_106 : decode cX5_readRule 106 = .ok (.lload_n 1, 1) := by decide +kernel
theorem dX5_readRule_107 : decode cX5_readRule 107 = .ok (.iload_n 3, 1) := by decide +kernel
theorem dX5_readRule_108 : decode cX5_readRule 108 = .ok (.aload_n 0, 1) := by decide +kernel
theorem dX5_readRule_109 : decode cX5_readRule 109 = .ok (.getfield 106, 3) := by decide +kernel
theorem dX5_readRule_112 : decode cX5_readRule 112 = .ok (.invokevirtual 113, 3) := by decide +kernel
theorem dX5_readRule_115 : decode cX5_readRule 115 = .ok (.iconst 1, 1) := by decide +kernel
theorem dX5_readRule_116 : decode cX5_readRule 116 = .ok (.ireturn, 1) := by decide +kernel
theorem dX5_readHeap_0 : decode cX5_readHeap 0 = .ok (.aload_n 0, 1) := by decide +kernel
theorem dX5_readHeap_1 : decode cX5_readHeap 1 = .ok (.getfield 22, 3) := by decide +kernel
theorem dX5_readHeap_4 : decode cX5_readHeap 4 = .ok (.getfield 117, 3) := by decide +kernel
theorem dX5_readHeap_7 : decode cX5_readHeap 7 = .ok (.getfield 121, 3) := by decide +kernel
theorem dX5_readHeap_10 : decode cX5_readHeap 10 = .ok (.iconst 4, 1) := by decide +kernel
theorem dX5_readHeap_11 : decode cX5_readHeap 11 = .ok (.if_icmp .lt 9, 3) := by decide +kernel
theorem dX5_readHeap_14 : decode cX5_readHeap 14 = .ok (.aload_n 0, 1) := by decide +kernel
theorem dX5_readHeap_15 : decode cX5_readHeap 15 = .ok (.iconst 5, 1) := by decide +kernel
theorem dX5_readHeap_16 : decode cX5_readHeap 16 = .ok (.invokevirtual 55, 3) := by decide +kernel
theorem dX5_readHeap_19 : decode cX5_readHeap 19 = .ok (.ireturn, 1) := by decide +kernel
theorem dX5_readHeap_20 : decode cX5_readHeap 20 = .ok (.aload_n 0, 1) := by decide +kernel
theorem dX5_readHeap_21 : decode cX5_readHeap 21 = .ok (.invokevirtual 45, 3) := by decide +kernel
theorem dX5_readHeap_24 : decode cX5_readHeap 24 = .ok (.aload_n 0, 1) := by decide +kernel
theorem dX5_readHeap_25 : decode cX5_readHeap 25 = .ok (.invokevirtual 91, 3) := by decide +kernel
theorem dX5_readHeap_28 : decode cX5_readHeap 28 = .ok (.ifCond .ne 9, 3) := by decide +kernel
theorem dX5_readHeap_31 : decode cX5_readHeap 31 = .ok (.aload_n 0, 1) := by decide +kernel
theorem dX5_readHeap_32 : decode cX5_readHeap 32 = .ok (.iconst 1, 1) := by decide +kernel
theorem dX5_readHeap_33 : decode cX5_readHeap 33 = .ok (.invokevirtual 55, 3) := by decide +kernel
theorem dX5_readHeap_36 : decode cX5_readHeap 36 = .ok (.ireturn, 1) := by decide +kernel
theorem dX5_readHeap_37 : decode cX5_readHeap 37 = .ok (.aload_n 0, 1) := by decide +kernel
theorem dX5_readHeap_38 : decode cX5_readHeap 38 = .ok (.getfield 22, 3) := by decide +kernel
theorem dX5_readHeap_41 : decode cX5_readHeap 41 = .ok (.aload_n 0, 1) := by decide +kernel
theorem dX5_readHeap_42 : decode cX5_readHeap 42 = .ok (.invokevirtual 94, 3) := by decide +kernel
theorem dX5_readHeap_45 : decode cX5_readHeap 45 = .ok (.invokevirtual 98, 3) := by decide +kernel
theorem dX5_readHeap_48 : decode cX5_readHeap 48 = .ok (.istore_n 1, 1) := by decide +kernel
theorem dX5_readHeap_49 : decode cX5_readHeap 49 = .ok (.iload_n 1, 1) := by decide +kernel
theorem dX5_readHeap_50 : decode cX5_readHeap 50 = .ok (.iconst (-1), 1) := by decide +kernel
theorem dX5_readHeap_51 : decode cX5_readHeap 51 = .ok (.if_icmp .ne 9, 3) := by decide +kernel
theorem dX5_readHeap_54 : decode cX5_readHeap 54 = .ok (.aload_n 0, 1) := by decide +kernel
theorem dX5_readHeap_55 : decode cX5_readHeap 55 = .ok (.iconst 4, 1) := by decide +kernel
theorem dX5_readHeap_56 : decode cX5_readHeap 56 = .ok (.invokevirtual 55, 3) := by decide +kernel
theorem dX5_readHeap_59 : decode cX5_readHeap 59 = .ok (.ireturn, 1) := by decide +kernel
theorem dX5_readHeap_60 : decode cX5_readHeap 60 = .ok (.aload_n 0, 1) := by decide +kernel
theorem dX5_readHeap_61 : decode cX5_readHeap 61 = .ok (.invokevirtual 45, 3) := by decide +kernel
theorem dX5_readHeap_64 : decode cX5_readHeap 64 = .ok (.aload_n 0, 1) := by decide +kernel
theorem dX5_readHeap_65 : decode cX5_readHeap 65 = .ok (.invokevirtual 126, 3) := by decide +kernel
theorem dX5_readHeap_68 : decode cX5_readHeap 68 = .ok (.ifCond .ne 9, 3) := by decide +kernel
theorem dX5_readHeap_71 : decode cX5_readHeap 71 = .ok (.aload_n 0, 1) := by decide +kernel
theorem dX5_readHeap_72 : decode cX5_readHeap 72 = .ok (.iconst 1, 1) := by decide +kernel
theorem dX5_readHeap_73 : decode cX5_readHeap 73 = .ok (.invokevirtual 55, 3) := by decide +kernel
theorem dX5_readHeap_76 : decode cX5_readHeap 76 = .ok (.ireturn, 1) := by decide +kernel
theorem dX5_readHeap_77 : decode cX5_readHeap 77 = .ok (.aload_n 0, 1) := by decide +kernel
theorem dX5_readHeap_78 : decode cX5_readHeap 78 = .ok (.invokevirtual 129, 3) := by decide +kernel
theorem dX5_readHeap_81 : decode cX5_readHeap 81 = .ok (.istore_n 2, 1) := by decide +kernel
theorem dX5_readHeap_82 : decode cX5_readHeap 82 = .ok (.iload_n 2, 1) := by decide +kernel
theorem dX5_readHeap_83 : decode cX5_readHeap 83 = .ok (.bipush 15, 2) := by decide +kernel
theorem dX5_readHeap_85 : decode cX5_readHeap 85 = .ok (.if_icmp .le 9, 3) := by decide +kernel
theorem dX5_readHeap_88 : decode cX5_readHeap 88 = .ok (.aload_n 0, 1) := by decide +kernel
theorem dX5_readHeap_89 : decode cX5_readHeap 89 = .ok (.iconst 3, 1) := by decide +kernel
theorem dX5_readHeap_90 : decode cX5_readHeap 90 = .ok (.invokevirtual 55, 3) := by decide +kernel
theorem dX5_readHeap_93 : decode cX5_readHeap 93 = .ok (.ireturn, 1) := by decide +kernel
theorem dX5_readHeap_94 : decode cX5_readHeap 94 = .ok (.aload_n 0, 1) := by decide +kernel
theorem dX5_readHeap_95 : decode cX5_readHeap 95 = .ok (.getfield 22, 3) := by decide +kernel
theorem dX5_readHeap_98 : decode cX5_readHeap 98 = .ok (.getfield 117, 3) := by decide +kernel
theorem dX5_readHeap_101 : decode cX5_readHeap 101 = .ok (.iload_n 1, 1) := by decide +kernel
theorem dX5_readHeap_102 : decode cX5_readHeap 102 = .ok (.iload_n 2, 1) := by decide +kernel
theorem dX5_readHeap_103 : decode cX5_readHeap 103 = .ok (.invokevirtual 132, 3) := by decide +kernel
theorem dX5_readHeap_106 : decode cX5_readHeap 106 = .ok (.pop, 1) := by decide +kernel
theorem dX5_readHeap_107 : decode cX5_readHeap 107 = .ok (.aload_n 0, 1) := by decide +kernel
theorem dX5_readHeap_108 : decode cX5_readHeap 108 = .ok (.invokevirtual 45, 3) := by decide +kernel
theorem dX5_readHeap_111 : decode cX5_readHeap 111 = .ok (.iconst 1, 1) := by decide +kernel
theorem dX5_readHeap_112 : decode cX5_readHeap 112 = .ok (.ireturn, 1) := by decide +kernel
theorem dX5_readShared_0 : decode cX5_readShared 0 = .ok (.aload_n 0, 1) := by decide +kernel
theorem dX5_readShared_1 : decode cX5_readShared 1 = .ok (.getfield 22, 3) := by decide +kernel
theorem dX5_readShared_4 : decode cX5_readShared 4 = .ok (.getfield 135, 3) := by decide +kernel
theorem dX5_readShared_7 : decode cX5_readShared 7 = .ok (.ifCond .eq 9, 3) := by decide +kernel
theorem dX5_readShared_10 : decode cX5_readShared 10 = .ok (.aload_n 0, 1) := by decide +kernel
theorem dX5_readShared_11 : decode cX5_readShared 11 = .ok (.iconst 2, 1) := by decide +kernel
theorem dX5_readShared_12 : decode cX5_readShared 12 = .ok (.invokevirtual 55, 3) := by decide +kernel
theorem dX5_readShared_15 : decode cX5_readShared 15 = .ok (.ireturn, 1) := by decide +kernel
theorem dX5_readShared_16 : decode cX5_readShared 16 = .ok (.aload_n 0, 1) := by decide +kernel
theorem dX5_readShared_17 : decode cX5_readShared 17 = .ok (.invokevirtual 45, 3) := by decide +kernel
theorem dX5_readShared_20 : decode cX5_readShared 20 = .ok (.aload_n 0, 1) := by decide +kernel
theorem dX5_readShared_21 : decode cX5_readShared 21 = .ok (.bipush 15, 2) := by decide +kernel
theorem dX5_readShared_23 : decode cX5_readShared 23 = .ok (.invokevirtual 110, 3) := by decide +kernel
theorem dX5_readShared_26 : decode cX5_readShared 26 = .ok (.ifCond .ne 5, 3) := by decide +kernel
theorem dX5_readShared_29 : decode cX5_readShared 29 = .ok (.iconst 0, 1) := by decide +kernel
theorem dX5_readShared_30 : decode cX5_readShared 30 = .ok (.ireturn, 1) := by decide +kernel
theorem dX5_readShared_31 : decode cX5_readShared 31 = .ok (.aload_n 0, 1) := by decide +kernel
theorem dX5_readShared_32 : decode cX5_readShared 32 = .ok (.getfield 22, 3) := by decide +kernel
theorem dX5_readShared_35 : decode cX5_readShared 35 = .ok (.aload_n 0, 1) := by decide +kernel
theorem dX5_readShared_36 : decode cX5_readShared 36 = .ok (.getfield 106, 3) := by decide +kernel
theorem dX5_readShared_39 : decode cX5_readShared 39 = .ok (.l2i, 1) := by decide +kernel
theorem dX5_readShared_40 : decode cX5_readShared 40 = .ok (.putfield 135, 3) := by decide +kernel
theorem dX5_readShared_43 : decode cX5_readShared 43 = .ok (.iconst 1, 1) := by decide +kernel
theorem dX5_readShared_44 : decode cX5_readShared 44 = .ok (.ireturn, 1) := by decide +kernel
theorem dX5_readPasses_0 : decode cX5_readPasses 0 = .ok (.aload_n 0, 1) := by decide +kernel
theorem dX5_readPasses_1 : decode cX5_readPasses 1 = .ok (.getfield 41, 3) := by decide +kernel
theorem dX5_readPasses_4 : decode cX5_readPasses 4 = .ok (.ifCond .eq 9, 3) := by decide +kernel
theorem dX5_readPasses_7 : decode cX5_readPasses 7 = .ok (.aload_n 0, 1) := by decide +kernel
theorem dX5_readPasses_8 : decode cX5_readPasses 8 = .ok (.iconst 2, 1) := by decide +kernel
theorem dX5_readPasses_9 : decode cX5_readPasses 9 = .ok (.invokevirtual 55, 3) := by decide +kernel
theorem dX5_readPasses_12 : decode cX5_readPasses 12 = .ok (.ireturn, 1) := by decide +kernel
theorem dX5_readPasses_13 : decode cX5_readPasses 13 = .ok (.aload_n 0, 1) := by decide +kernel
theorem dX5_readPasses_14 : decode cX5_readPasses 14 = .ok (.iconst 1, 1) := by decide +kernel
theorem dX5_readPasses_15 : decode cX5_readPasses 15 = .ok (.putfield 41, 3) := by decide +kernel
theorem dX5_readPasses_18 : decode cX5_readPasses 18 = .ok (.aload_n 0, 1) := by decide +kernel
theorem dX5_readPasses_19 : decode cX5_readPasses 19 = .ok (.invokevirtual 45, 3) := by decide +kernel
theorem dX5_readPasses_22 : decode cX5_readPasses 22 = .ok (.aload_n 0, 1) := by decide +kernel
theorem dX5_readPasses_23 : decode cX5_readPasses 23 = .ok (.invokevirtual 126, 3) := by decide +kernel
theorem dX5_readPasses_26 : decode cX5_readPasses 26 = .ok (.ifCond .ne 9, 3) := by decide +kernel
theorem dX5_readPasses_29 : decode cX5_readPasses 29 = .ok (.aload_n 0, 1) := by decide +kernel
theorem dX5_readPasses_30 : decode cX5_readPasses 30 = .ok (.iconst 1, 1) := by decide +kernel
theorem dX5_readPasses_31 : decode cX5_readPasses 31 = .ok (.invokevirtual 55, 3) := by decide +kernel
theorem dX5_readPasses_34 : decode cX5_readPasses 34 = .ok (.ireturn, 1) := by decide +kernel
theorem dX5_readPasses_35 : decode cX5_readPasses 35 = .ok (.aload_n 0, 1) := by decide +kernel
theorem dX5_readPasses_36 : decode cX5_readPasses 36 = .ok (.invokevirtual 129, 3) := by decide +kernel
theorem dX5_readPasses_39 : decode cX5_readPasses 39 = .ok (.istore_n 1, 1) := by decide +kernel
theorem dX5_readPasses_40 : decode cX5_readPasses 40 = .ok (.iload_n 1, 1) := by decide +kernel
theorem dX5_readPasses_41 : decode cX5_readPasses 41 = .ok (.iconst 3, 1) := by decide +kernel
theorem dX5_readPasses_42 : decode cX5_readPasses 42 = .ok (.if_icmp .le 9, 3) := by decide +kernel
theorem dX5_readPasses_45 : decode cX5_readPasses 45 = .ok (.aload_n 0, 1) := by decide +kernel
theorem dX5_readPasses_46 : decode cX5_readPasses 46 = .ok (.iconst 3, 1) := by decide +kernel
theorem dX5_readPasses_47 : decode cX5_readPasses 47 = .ok (.invokevirtual 55, 3) := by decide +kernel
theorem dX5_readPasses_50 : decode cX5_readPasses 50 = .ok (.ireturn, 1) := by decide +kernel
theorem dX5_readPasses_51 : decode cX5_readPasses 51 = .ok (.aload_n 0, 1) := by decide +kernel
theorem dX5_readPasses_52 : decode cX5_readPasses 52 = .ok (.getfield 22, 3) := by decide +kernel
theorem dX5_readPasses_55 : decode cX5_readPasses 55 = .ok (.getfield 117, 3) := by decide +kernel
theorem dX5_readPasses_58 : decode cX5_readPasses 58 = .ok (.dup, 1) := by decide +kernel
theorem dX5_readPasses_59 : decode cX5_readPasses 59 = .ok (.getfield 137, 3) := by decide +kernel
theorem dX5_readPasses_62 : decode cX5_readPasses 62 = .ok (.iload_n 1, 1) := by decide +kernel
theorem dX5_readPasses_63 : decode cX5_readPasses 63 = .ok (.ldc 140, 2) := by decide +kernel
theorem dX5_readPasses_65 : decode cX5_readPasses 65 = .ok (.imul, 1) := by decide +kernel
theorem dX5_readPasses_66 : decode cX5_readPasses 66 = .ok (.iadd, 1) := by decide +kernel
theorem dX5_readPasses_67 : decode cX5_readPasses 67 = .ok (.putfield 137, 3) := by decide +kernel
theorem dX5_readPasses_70 : decode cX5_readPasses 70 = .ok (.aload_n 0, 1) := by decide +kernel
theorem dX5_readPasses_71 : decode cX5_readPasses 71 = .ok (.invokevirtual 45, 3) := by decide +kernel
theorem dX5_readPasses_74 : decode cX5_readPasses 74 = .ok (.iconst 1, 1) := by decide +kernel
theorem dX5_readPasses_75 : decode cX5_readPasses 75 = .ok (.ireturn, 1) := by decide +kernel
theorem dX5_readMisere_0 : decode cX5_readMisere 0 = .ok (.aload_n 0, 1) := by decide +kernel
theorem dX5_readMisere_1 : decode cX5_readMisere 1 = .ok (.getfield 22, 3) := by decide +kernel
theorem dX5_readMisere_4 : decode cX5_readMisere 4 = .ok (.getfield 117, 3) := by decide +kernel
theorem dX5_readMisere_7 : decode cX5_readMisere 7 = .ok (.getfield 141, 3) := by decide +kernel
theorem dX5_readMisere_10 : decode cX5_readMisere 10 = .ok (.ifCond .eq 9, 3) := by decide +kernel
theorem dX5_readMisere_13 : decode cX5_readMisere 13 = .ok (.aload_n 0, 1) := by decide +kernel
theorem dX5_readMisere_14 : decode cX5_readMisere 14 = .ok (.iconst 2, 1) := by decide +kernel
theorem dX5_readMisere_15 : decode cX5_readMisere 15 = .ok (.invokevirtual 55, 3) := by decide +kernel
theorem dX5_readMisere_18 : decode cX5_readMisere 18 = .ok (.ireturn, 1) := by decide +kernel
theorem dX5_readMisere_19 : decode cX5_readMisere 19 = .ok (.aload_n 0, 1) := by decide +kernel
theorem dX5_readMisere_20 : decode cX5_readMisere 20 = .ok (.getfield 22, 3) := by decide +kernel
theorem dX5_readMisere_23 : decode cX5_readMisere 23 = .ok (.getfield 117, 3) := by decide +kernel
theorem dX5_readMisere_26 : decode cX5_readMisere 26 = .ok (.iconst 1, 1) := by decide +kernel
theorem dX5_readMisere_27 : decode cX5_readMisere 27 = .ok (.putfield 141, 3) := by decide +kernel
theorem dX5_readMisere_30 : decode cX5_readMisere 30 = .ok (.aload_n 0, 1) := by decide +kernel
theorem dX5_readMisere_31 : decode cX5_readMisere 31 = .ok (.invokevirtual 45, 3) := by decide +kernel
theorem dX5_readMisere_34 : decode cX5_readMisere 34 = .ok (.iconst 1, 1) := by decide +kernel
theorem dX5_readMisere_35 : decode cX5_readMisere 35 = .ok (.ireturn, 1) := by decide +kernel
theorem dX5_readAmounts_0 : decode cX5_readAmounts 0 = .ok (.aload_n 0, 1) := by decide +kernel
theorem dX5_readAmounts_1 : decode cX5_readAmounts 1 = .ok (.lconst 0, 1) := by decide +kernel
theorem dX5_readAmounts_2 : decode cX5_readAmounts 2 = .ok (.putfield 106, 3) := by decide +kernel
theorem dX5_readAmounts_5 : decode cX5_readAmounts 5 = .ok (.iconst 0, 1) := by decide +kernel
theorem dX5_readAmounts_6 : decode cX5_readAmounts 6 = .ok (.istore_n 2, 1) := by decide +kernel
theorem dX5_readAmounts_7 : decode cX5_readAmounts 7 = .ok (.iload_n 2, 1) := by decide +kernel
theorem dX5_readAmounts_8 : decode cX5_readAmounts 8 = .ok (.bipush 8, 2) := by decide +kernel
theorem dX5_readAmounts_10 : decode cX5_readAmounts 10 = .ok (.if_icmp .gt 104, 3) := by decide +kernel
theorem dX5_readAmounts_13 : decode cX5_readAmounts 13 = .ok (.iload_n 2, 1) := by decide +kernel
theorem dX5_readAmounts_14 : decode cX5_readAmounts 14 = .ok (.ifCond .le 13, 3) := by decide +kernel
theorem dX5_readAmounts_17 : decode cX5_readAmounts 17 = .ok (.aload_n 0, 1) := by decide +kernel
theorem dX5_readAmounts_18 : decode cX5_readAmounts 18 = .ok (.getfield 48, 3) := by decide +kernel
theorem dX5_readAmounts_21 : decode cX5_readAmounts 21 = .ok (.iconst 2, 1) := by decide +kernel
theorem dX5_readAmounts_22 : decode cX5_readAmounts 22 = .ok (.if_icmp .eq 5, 3) := by decide +kernel
theorem dX5_readAmounts_25 : decode cX5_readAmounts 25 = .ok (.iconst 1, 1) := by decide +kernel
theorem dX5_readAmounts_26 : decode cX5_readAmounts 26 = .ok (.ireturn, 1) := by decide +kernel
theorem dX5_readAmounts_27 : decode cX5_readAmounts 27 = .ok (.aload_n 0, 1) := by decide +kernel
theorem dX5_readAmounts_28 : decode cX5_readAmounts 28 = .ok (.invokevirtual 126, 3) := by decide +kernel
theorem dX5_readAmounts_31 : decode cX5_readAmounts 31 = .ok (.ifCond .ne 9, 3) := by decide +kernel
theorem dX5_readAmounts_34 : decode cX5_readAmounts 34 = .ok (.aload_n 0, 1) := by decide +kernel
theorem dX5_readAmounts_35 : decode cX5_readAmounts 35 = .ok (.iconst 1, 1) := by decide +kernel
theorem dX5_readAmounts_36 : decode cX5_readAmounts 36 = .ok (.invokevirtual 55, 3) := by decide +kernel
theorem dX5_readAmounts_39 : decode cX5_readAmounts 39 = .ok (.ireturn, 1) := by decide +kernel
theorem dX5_readAmounts_40 : decode cX5_readAmounts 40 = .ok (.aload_n 0, 1) := by decide +kernel
theorem dX5_readAmounts_41 : decode cX5_readAmounts 41 = .ok (.invokevirtual 129, 3) := by decide +kernel
theorem dX5_readAmounts_44 : decode cX5_readAmounts 44 = .ok (.istore_n 3, 1) := by decide +kernel
theorem dX5_readAmounts_45 : decode cX5_readAmounts 45 = .ok (.iload_n 3, 1) := by decide +kernel
theorem dX5_readAmounts_46 : decode cX5_readAmounts 46 = .ok (.iconst 1, 1) := by decide +kernel
theorem dX5_readAmounts_47 : decode cX5_readAmounts 47 = .ok (.if_icmp .lt 8, 3) := by decide +kernel
theorem dX5_readAmounts_50 : decode cX5_readAmounts 50 = .ok (.iload_n 3, 1) := by decide +kernel
theorem dX5_readAmounts_51 : decode cX5_readAmounts 51 = .ok (.iload_n 1, 1) := by decide +kernel
theorem dX5_readAmounts_52 : decode cX5_readAmounts 52 = .ok (.if_icmp .le 9, 3) := by decide +kernel
theorem dX5_readAmounts_55 : decode cX5_readAmounts 55 = .ok (.aload_n 0, 1) := by decide +kernel
theorem dX5_readAmounts_56 : decode cX5_readAmounts 56 = .ok (.iconst 3, 1) := by decide +kernel
theorem dX5_readAmounts_57 : decode cX5_readAmounts 57 = .ok (.invokevirtual 55, 3) := by decide +kernel
theorem dX5_readAmounts_60 : decode cX5_readAmounts 60 = .ok (.ireturn, 1) := by decide +kernel
theorem dX5_readAmounts_61 : decode cX5_readAmounts 61 = .ok (.aload_n 0, 1) := by decide +kernel
theorem dX5_readAmounts_62 : decode cX5_readAmounts 62 = .ok (.getfield 106, 3) := by decide +kernel
theorem dX5_readAmounts_65 : decode cX5_readAmounts 65 = .ok (.iload_n 3, 1) := by decide +kernel
theorem dX5_readAmounts_66 : decode cX5_readAmounts 66 = .ok (.lshr, 1) := by decide +kernel
theorem dX5_readAmounts_67 : decode cX5_readAmounts 67 = .ok (.lconst 1, 1) := by decide +kernel
theorem dX5_readAmounts_68 : decode cX5_readAmounts 68 = .ok (.land, 1) := by decide +kernel
theorem dX5_readAmounts_69 : decode cX5_readAmounts 69 = .ok (.lconst 0, 1) := by decide +kernel
theorem dX5_readAmounts_70 : decode cX5_readAmounts 70 = .ok (.lcmp, 1) := by decide +kernel
theorem dX5_readAmounts_71 : decode cX5_readAmounts 71 = .ok (.ifCond .eq 9, 3) := by decide +kernel
theorem dX5_readAmounts_74 : decode cX5_readAmounts 74 = .ok (.aload_n 0, 1) := by decide +kernel
theorem dX5_readAmounts_75 : decode cX5_readAmounts 75 = .ok (.iconst 2, 1) := by decide +kernel
theorem dX5_readAmounts_76 : decode cX5_readAmounts 76 = .ok (.invokevirtual 55, 3) := by decide +kernel
theorem dX5_readAmounts_79 : decode cX5_readAmounts 79 = .ok (.ireturn, 1) := by decide +kernel
theorem dX5_readAmounts_80 : decode cX5_readAmounts 80 = .ok (.iload_n 2, 1) := by decide +kernel
theorem dX5_readAmounts_81 : decode cX5_readAmounts 81 = .ok (.bipush 8, 2) := by decide +kernel
theorem dX5_readAmounts_83 : decode cX5_readAmounts 83 = .ok (.if_icmp .ne 9, 3) := by decide +kernel
theorem dX5_readAmounts_86 : decode cX5_readAmounts 86 = .ok (.aload_n 0, 1) := by decide +kernel
theorem dX5_readAmounts_87 : decode cX5_readAmounts 87 = .ok (.iconst 5, 1) := by decide +kernel
theorem dX5_readAmounts_88 : decode cX5_readAmounts 88 = .ok (.invokevirtual 55, 3) := by decide +kernel
theorem dX5_readAmounts_91 : decode cX5_readAmounts 91 = .ok (.ireturn, 1) := by decide +kernel
theorem dX5_readAmounts_92 : decode cX5_readAmounts 92 = .ok (.aload_n 0, 1) := by decide +kernel
theorem dX5_readAmounts_93 : decode cX5_readAmounts 93 = .ok (.dup, 1) := by decide +kernel
theorem dX5_readAmounts_94 : decode cX5_readAmounts 94 = .ok (.getfield 106, 3) := by decide +kernel
theorem dX5_readAmounts_97 : decode cX5_readAmounts 97 = .ok (.lconst 1, 1) := by decide +kernel
theorem dX5_readAmounts_98 : decode cX5_readAmounts 98 = .ok (.iload_n 3, 1) := by decide +kernel
theorem dX5_readAmounts_99 : decode cX5_readAmounts 99 = .ok (.lshl, 1) := by decide +kernel
theorem dX5_readAmounts_100 : decode cX5_readAmounts 100 = .ok (.lor, 1) := by decide +kernel
theorem dX5_readAmounts_101 : decode cX5_readAmounts 101 = .ok (.putfield 106, 3) := by decide +kernel
theorem dX5_readAmounts_104 : decode cX5_readAmounts 104 = .ok (.aload_n 0, 1) := by decide +kernel
theorem dX5_readAmounts_105 : decode cX5_readAmounts 105 = .ok (.invokevirtual 45, 3) := by decide +kernel
theorem dX5_readAmounts_108 : decode cX5_readAmounts 108 = .ok (.iinc 2 1, 3) := by decide +kernel
theorem dX5_readAmounts_111 : decode cX5_readAmounts 111 = .ok (.goto (-104), 3) := by decide +kernel
theorem dX5_readAmounts_114 : decode cX5_readAmounts 114 = .ok (.iconst 1, 1) := by decide +kernel
theorem dX5_readAmounts_115 : decode cX5_readAmounts 115 = .ok (.ireturn, 1) := by decide +kernel
theorem dX5_fail_0 : decode cX5_fail 0 = .ok (.aload_n 0, 1) := by decide +kernel
theorem dX5_fail_1 : decode cX5_fail 1 = .ok (.bipush (-2), 2) := by decide +kernel
theorem dX5_fail_3 : decode cX5_fail 3 = .ok (.bipush 8, 2) := by decide +kernel
theorem dX5_fail_5 : decode cX5_fail 5 = .ok (.aload_n 0, 1) := by decide +kernel
theorem dX5_fail_6 : decode cX5_fail 6 = .ok (.getfield 143, 3) := by decide +kernel
theorem dX5_fail_9 : decode cX5_fail 9 = .ok (.imul, 1) := by decide +kernel
theorem dX5_fail_10 : decode cX5_fail 10 = .ok (.iload_n 1, 1) := by decide +kernel
theorem dX5_fail_11 : decode cX5_fail 11 = .ok (.iadd, 1) := by decide +kernel
theorem dX5_fail_12 : decode cX5_fail 12 = .ok (.isub, 1) := by decide +kernel
theorem dX5_fail_13 : decode cX5_fail 13 = .ok (.putfield 146, 3) := by decide +kernel
theorem dX5_fail_16 : decode cX5_fail 16 = .ok (.iconst 0, 1) := by decide +kernel
theorem dX5_fail_17 : decode cX5_fail 17 = .ok (.ireturn, 1) := by decide +kernel
theorem dX5_nextToken_0 : decode cX5_nextToken 0 = .ok (.aload_n 0, 1) := by decide +kernel
theorem dX5_nextToken_1 : decode cX5_nextToken 1 = .ok (.getfield 35, 3) := by decide +kernel
theorem dX5_nextToken_4 : decode cX5_nextToken 4 = .ok (.istore_n 1, 1) := by decide +kernel
theorem dX5_nextToken_5 : decode cX5_nextToken 5 = .ok (.iload_n 1, 1) := by decide +kernel
theorem dX5_nextToken_6 : decode cX5_nextToken 6 = .ok (.aload_n 0, 1) := by decide +kernel
theorem dX5_nextToken_7 : decode cX5_nextToken 7 = .ok (.getfield 32, 3) := by decide +kernel
theorem dX5_nextToken_10 : decode cX5_nextToken 10 = .ok (.if_icmp .ge 19, 3) := by decide +kernel
theorem dX5_nextToken_13 : decode cX5_nextToken 13 = .ok (.aload_n 0, 1) := by decide +kernel
theorem dX5_nextToken_14 : decode cX5_nextToken 14 = .ok (.iload_n 1, 1) := by decide +kernel
theorem dX5_nextToken_15 : decode cX5_nextToken 15 = .ok (.invokevirtual 149, 3) := by decide +kernel
theorem dX5_nextToken_18 : decode cX5_nextToken 18 = .ok (.bipush 32, 2) := by decide +kernel
theorem dX5_nextToken_20 : decode cX5_nextToken 20 = .ok (.if_icmp .ne 9, 3) := by decide +kernel
theorem dX5_nextToken_23 : decode cX5_nextToken 23 = .ok (.iinc 1 1, 3) := by decide +kernel
theorem dX5_nextToken_26 : decode cX5_nextToken 26 = .ok (.goto (-21), 3) := by decide +kernel
theorem dX5_nextToken_29 : decode cX5_nextToken 29 = .ok (.aload_n 0, 1) := by decide +kernel
theorem dX5_nextToken_30 : decode cX5_nextToken 30 = .ok (.iload_n 1, 1) := by decide +kernel
theorem dX5_nextToken_31 : decode cX5_nextToken 31 = .ok (.putfield 143, 3) := by decide +kernel
theorem dX5_nextToken_34 : decode cX5_nextToken 34 = .ok (.aload_n 0, 1) := by decide +kernel
theorem dX5_nextToken_35 : decode cX5_nextToken 35 = .ok (.aload_n 0, 1) := by decide +kernel
theorem dX5_nextToken_36 : decode cX5_nextToken 36 = .ok (.iload_n 1, 1) := by decide +kernel
theorem dX5_nextToken_37 : decode cX5_nextToken 37 = .ok (.invokevirtual 153, 3) := by decide +kernel
theorem dX5_nextToken_40 : decode cX5_nextToken 40 = .ok (.putfield 48, 3) := by decide +kernel
theorem dX5_nextToken_43 : decode cX5_nextToken 43 = .ok (.aload_n 0, 1) := by decide +kernel
theorem dX5_nextToken_44 : decode cX5_nextToken 44 = .ok (.getfield 48, 3) := by decide +kernel
theorem dX5_nextToken_47 : decode cX5_nextToken 47 = .ok (.ifCond .eq 6, 3) := by decide +kernel
theorem dX5_nextToken_50 : decode cX5_nextToken 50 = .ok (.iinc 1 1, 3) := by decide +kernel
theorem dX5_nextToken_53 : decode cX5_nextToken 53 = .ok (.aload_n 0, 1) := by decide +kernel
theorem dX5_nextToken_54 : decode cX5_nextToken 54 = .ok (.getfield 48, 3) := by decide +kernel
theorem dX5_nextToken_57 : decode cX5_nextToken 57 = .ok (.iconst 1, 1) := by decide +kernel
theorem dX5_nextToken_58 : decode cX5_nextToken 58 = .ok (.if_icmp .eq 11, 3) := by decide +kernel
theorem dX5_nextToken_61 : decode cX5_nextToken 61 = .ok (.aload_n 0, 1) := by decide +kernel
theorem dX5_nextToken_62 : decode cX5_nextToken 62 = .ok (.getfield 48, 3) := by decide +kernel
theorem dX5_nextToken_65 : decode cX5_nextToken 65 = .ok (.iconst 2, 1) := by decide +kernel
theorem dX5_nextToken_66 : decode cX5_nextToken 66 = .ok (.if_icmp .ne 29, 3) := by decide +kernel
theorem dX5_nextToken_69 : decode cX5_nextToken 69 = .ok (.iload_n 1, 1) := by decide +kernel
theorem dX5_nextToken_70 : decode cX5_nextToken 70 = .ok (.aload_n 0, 1) := by decide +kernel
theorem dX5_nextToken_71 : decode cX5_nextToken 71 = .ok (.getfield 32, 3) := by decide +kernel
theorem dX5_nextToken_74 : decode cX5_nextToken 74 = .ok (.if_icmp .ge 21, 3) := by decide +kernel
theorem dX5_nextToken_77 : decode cX5_nextToken 77 = .ok (.aload_n 0, 1) := by decide +kernel
theorem dX5_nextToken_78 : decode cX5_nextToken 78 = .ok (.iload_n 1, 1) := by decide +kernel
theorem dX5_nextToken_79 : decode cX5_nextToken 79 = .ok (.invokevirtual 153, 3) := by decide +kernel
theorem dX5_nextToken_82 : decode cX5_nextToken 82 = .ok (.aload_n 0, 1) := by decide +kernel
theorem dX5_nextToken_83 : decode cX5_nextToken 83 = .ok (.getfield 48, 3) := by decide +kernel
theorem dX5_nextToken_86 : decode cX5_nextToken 86 = .ok (.if_icmp .ne 9, 3) := by decide +kernel
theorem dX5_nextToken_89 : decode cX5_nextToken 89 = .ok (.iinc 1 1, 3) := by decide +kernel
theorem dX5_nextToken_92 : decode cX5_nextToken 92 = .ok (.goto (-23), 3) := by decide +kernel
theorem dX5_nextToken_95 : decode cX5_nextToken 95 = .ok (.aload_n 0, 1) := by decide +kernel
theorem dX5_nextToken_96 : decode cX5_nextToken 96 = .ok (.iload_n 1, 1) := by decide +kernel
theorem dX5_nextToken_97 : decode cX5_nextToken 97 = .ok (.putfield 35, 3) := by decide +kernel
theorem dX5_nextToken_100 : decode cX5_nextToken 100 = .ok (.return_, 1) := by decide +kernel
theorem dX5_kindOfByte_0 : decode cX5_kindOfByte 0 = .ok (.iload_n 1, 1) := by decide +kernel
theorem dX5_kindOfByte_1 : decode cX5_kindOfByte 1 = .ok (.ifCond .lt 20, 3) := by decide +kernel
theorem dX5_kindOfByte_4 : decode cX5_kindOfByte 4 = .ok (.iload_n 1, 1) := by decide +kernel
theorem dX5_kindOfByte_5 : decode cX5_kindOfByte 5 = .ok (.aload_n 0, 1) := by decide +kernel
theorem dX5_kindOfByte_6 : decode cX5_kindOfByte 6 = .ok (.getfield 32, 3) := by decide +kernel
theorem dX5_kindOfByte_9 : decode cX5_kindOfByte 9 = .ok (.if_icmp .ge 12, 3) := by decide +kernel
theorem dX5_kindOfByte_12 : decode cX5_kindOfByte 12 = .ok (.iload_n 1, 1) := by decide +kernel
theorem dX5_kindOfByte_13 : decode cX5_kindOfByte 13 = .ok (.aload_n 0, 1) := by decide +kernel
theorem dX5_kindOfByte_14 : decode cX5_kindOfByte 14 = .ok (.getfield 9, 3) := by decide +kernel
theorem dX5_kindOfByte_17 : decode cX5_kindOfByte 17 = .ok (.arraylength, 1) := by decide +kernel
theorem dX5_kindOfByte_18 : decode cX5_kindOfByte 18 = .ok (.if_icmp .lt 5, 3) := by decide +kernel
theorem dX5_kindOfByte_21 : decode cX5_kindOfByte 21 = .ok (.iconst 0, 1) := by decide +kernel
theorem dX5_kindOfByte_22 : decode cX5_kindOfByte 22 = .ok (.ireturn, 1) := by decide +kernel
theorem dX5_kindOfByte_23 : decode cX5_kindOfByte 23 = .ok (.aload_n 0, 1) := by decide +kernel
theorem dX5_kindOfByte_24 : decode cX5_kindOfByte 24 = .ok (.getfield 9, 3) := by decide +kernel
theorem dX5_kindOfByte_27 : decode cX5_kindOfByte 27 = .ok (.iload_n 1, 1) := by decide +kernel
theorem dX5_kindOfByte_28 : decode cX5_kindOfByte 28 = .ok (.baload, 1) := by decide +kernel
theorem dX5_kindOfByte_29 : decode cX5_kindOfByte 29 = .ok (.istore_n 2, 1) := by decide +kernel
theorem dX5_kindOfByte_30 : decode cX5_kindOfByte 30 = .ok (.iload_n 2, 1) := by decide +kernel
theorem dX5_kindOfByte_31 : decode cX5_kindOfByte 31 = .ok (.bipush 97, 2) := by decide +kernel
theorem dX5_kindOfByte_33 : decode cX5_kindOfByte 33 = .ok (.if_icmp .lt 11, 3) := by decide +kernel
theorem dX5_kindOfByte_36 : decode cX5_kindOfByte 36 = .ok (.iload_n 2, 1) := by decide +kernel
theorem dX5_kindOfByte_37 : decode cX5_kindOfByte 37 = .ok (.bipush 122, 2) := by decide +kernel
theorem dX5_kindOfByte_39 : decode cX5_kindOfByte 39 = .ok (.if_icmp .gt 5, 3) := by decide +kernel
theorem dX5_kindOfByte_42 : decode cX5_kindOfByte 42 = .ok (.iconst 1, 1) := by decide +kernel
theorem dX5_kindOfByte_43 : decode cX5_kindOfByte 43 = .ok (.ireturn, 1) := by decide +kernel
theorem dX5_kindOfByte_44 : decode cX5_kindOfByte 44 = .ok (.iload_n 2, 1) := by decide +kernel
theorem dX5_kindOfByte_45 : decode cX5_kindOfByte 45 = .ok (.bipush 48, 2) := by decide +kernel
theorem dX5_kindOfByte_47 : decode cX5_kindOfByte 47 = .ok (.if_icmp .lt 11, 3) := by decide +kernel
theorem dX5_kindOfByte_50 : decode cX5_kindOfByte 50 = .ok (.iload_n 2, 1) := by decide +kernel
theorem dX5_kindOfByte_51 : decode cX5_kindOfByte 51 = .ok (.bipush 57, 2) := by decide +kernel
theorem dX5_kindOfByte_53 : decode cX5_kindOfByte 53 = .ok (.if_icmp .gt 5, 3) := by decide +kernel
theorem dX5_kindOfByte_56 : decode cX5_kindOfByte 56 = .ok (.iconst 2, 1) := by decide +kernel
theorem dX5_kindOfByte_57 : decode cX5_kindOfByte 57 = .ok (.ireturn, 1) := by decide +kernel
theorem dX5_kindOfByte_58 : decode cX5_kindOfByte 58 = .ok (.iload_n 2, 1) := by decide +kernel
theorem dX5_kindOfByte_59 : decode cX5_kindOfByte 59 = .ok (.bipush 59, 2) := by decide +kernel
theorem dX5_kindOfByte_61 : decode cX5_kindOfByte 61 = .ok (.if_icmp .ne 7, 3) := by decide +kernel
theorem dX5_kindOfByte_64 : decode cX5_kindOfByte 64 = .ok (.iconst 3, 1) := by decide +kernel
theorem dX5_kindOfByte_65 : decode cX5_kindOfByte 65 = .ok (.goto 4, 3) := by decide +kernel
theorem dX5_kindOfByte_68 : decode cX5_kindOfByte 68 = .ok (.iconst 4, 1) := by decide +kernel
theorem dX5_kindOfByte_69 : decode cX5_kindOfByte 69 = .ok (.ireturn, 1) := by decide +kernel
theorem dX5_byteAt_0 : decode cX5_byteAt 0 = .ok (.iload_n 1, 1) := by decide +kernel
theorem dX5_byteAt_1 : decode cX5_byteAt 1 = .ok (.ifCond .lt 21, 3) := by decide +kernel
theorem dX5_byteAt_4 : decode cX5_byteAt 4 = .ok (.iload_n 1, 1) := by decide +kernel
theorem dX5_byteAt_5 : decode cX5_byteAt 5 = .ok (.aload_n 0, 1) := by decide +kernel
theorem dX5_byteAt_6 : decode cX5_byteAt 6 = .ok (.getfield 9, 3) := by decide +kernel
theorem dX5_byteAt_9 : decode cX5_byteAt 9 = .ok (.arraylength, 1) := by decide +kernel
theorem dX5_byteAt_10 : decode cX5_byteAt 10 = .ok (.if_icmp .ge 12, 3) := by decide +kernel
theorem dX5_byteAt_13 : decode cX5_byteAt 13 = .ok (.aload_n 0, 1) := by decide +kernel
theorem dX5_byteAt_14 : decode cX5_byteAt 14 = .ok (.getfield 9, 3) := by decide +kernel
theorem dX5_byteAt_17 : decode cX5_byteAt 17 = .ok (.iload_n 1, 1) := by decide +kernel
theorem dX5_byteAt_18 : decode cX5_byteAt 18 = .ok (.baload, 1) := by decide +kernel
theorem dX5_byteAt_19 : decode cX5_byteAt 19 = .ok (.goto 4, 3) := by decide +kernel
theorem dX5_byteAt_22 : decode cX5_byteAt 22 = .ok (.iconst 0, 1) := by decide +kernel
theorem dX5_byteAt_23 : decode cX5_byteAt 23 = .ok (.ireturn, 1) := by decide +kernel
theorem dX5_tokenLength_0 : decode cX5_tokenLength 0 = .ok (.aload_n 0, 1) := by decide +kernel
theorem dX5_tokenLength_1 : decode cX5_tokenLength 1 = .ok (.getfield 35, 3) := by decide +kernel
theorem dX5_tokenLength_4 : decode cX5_tokenLength 4 = .ok (.aload_n 0, 1) := by decide +kernel
theorem dX5_tokenLength_5 : decode cX5_tokenLength 5 = .ok (.getfield 143, 3) := by decide +kernel
theorem dX5_tokenLength_8 : decode cX5_tokenLength 8 = .ok (.isub, 1) := by decide +kernel
theorem dX5_tokenLength_9 : decode cX5_tokenLength 9 = .ok (.ireturn, 1) := by decide +kernel
theorem dX5_isWord_0 : decode cX5_isWord 0 = .ok (.aload_n 0, 1) := by decide +kernel
theorem dX5_isWord_1 : decode cX5_isWord 1 = .ok (.getfield 48, 3) := by decide +kernel
theorem dX5_isWord_4 : decode cX5_isWord 4 = .ok (.iconst 1, 1) := by decide +kernel
theorem dX5_isWord_5 : decode cX5_isWord 5 = .ok (.if_icmp .ne 14, 3) := by decide +kernel
theorem dX5_isWord_8 : decode cX5_isWord 8 = .ok (.aload_n 0, 1) := by decide +kernel
theorem dX5_isWord_9 : decode cX5_isWord 9 = .ok (.invokevirtual 156, 3) := by decide +kernel
theorem dX5_isWord_12 : decode cX5_isWord 12 = .ok (.aload_n 1, 1) := by decide +kernel
theorem dX5_isWord_13 : decode cX5_isWord 13 = .ok (.invokevirtual 159, 3) := by decide +kernel
theorem dX5_isWord_16 : decode cX5_isWord 16 = .ok (.if_icmp .eq 5, 3) := by decide +kernel
theorem dX5_isWord_19 : decode cX5_isWord 19 = .ok (.iconst 0, 1) := by decide +kernel
theorem dX5_isWord_20 : decode cX5_isWord 20 = .ok (.ireturn, 1) := by decide +kernel
theorem dX5_isWord_21 : decode cX5_isWord 21 = .ok (.iconst 0, 1) := by decide +kernel
theorem dX5_isWord_22 : decode cX5_isWord 22 = .ok (.istore_n 2, 1) := by decide +kernel
theorem dX5_isWord_23 : decode cX5_isWord 23 = .ok (.iload_n 2, 1) := by decide +kernel
theorem dX5_isWord_24 : decode cX5_isWord 24 = .ok (.aload_n 1, 1) := by decide +kernel
theorem dX5_isWord_25 : decode cX5_isWord 25 = .ok (.invokevirtual 159, 3) := by decide +kernel
theorem dX5_isWord_28 : decode cX5_isWord 28 = .ok (.if_icmp .ge 29, 3) := by decide +kernel
theorem dX5_isWord_31 : decode cX5_isWord 31 = .ok (.aload_n 0, 1) := by decide +kernel
theorem dX5_isWord_32 : decode cX5_isWord 32 = .ok (.aload_n 0, 1) := by decide +kernel
theorem dX5_isWord_33 : decode cX5_isWord 33 = .ok (.getfield 143, 3) := by decide +kernel
theorem dX5_isWord_36 : decode cX5_isWord 36 = .ok (.iload_n 2, 1) := by decide +kernel
theorem dX5_isWord_37 : decode cX5_isWord 37 = .ok (.iadd, 1) := by decide +kernel
theorem dX5_isWord_38 : decode cX5_isWord 38 = .ok (.invokevirtual 149, 3) := by decide +kernel
theorem dX5_isWord_41 : decode cX5_isWord 41 = .ok (.aload_n 1, 1) := by decide +kernel
theorem dX5_isWord_42 : decode cX5_isWord 42 = .ok (.iload_n 2, 1) := by decide +kernel
theorem dX5_isWord_43 : decode cX5_isWord 43 = .ok (.invokevirtual 164, 3) := by decide +kernel
theorem dX5_isWord_46 : decode cX5_isWord 46 = .ok (.if_icmp .eq 5, 3) := by decide +kernel
theorem dX5_isWord_49 : decode cX5_isWord 49 = .ok (.iconst 0, 1) := by decide +kernel
theorem dX5_isWord_50 : decode cX5_isWord 50 = .ok (.ireturn, 1) := by decide +kernel
theorem dX5_isWord_51 : decode cX5_isWord 51 = .ok (.iinc 2 1, 3) := by decide +kernel
theorem dX5_isWord_54 : decode cX5_isWord 54 = .ok (.goto (-31), 3) := by decide +kernel
theorem dX5_isWord_57 : decode cX5_isWord 57 = .ok (.iconst 1, 1) := by decide +kernel
theorem dX5_isWord_58 : decode cX5_isWord 58 = .ok (.ireturn, 1) := by decide +kernel
theorem dX5_isName_0 : decode cX5_isName 0 = .ok (.aload_n 0, 1) := by decide +kernel
theorem dX5_isName_1 : decode cX5_isName 1 = .ok (.getfield 48, 3) := by decide +kernel
theorem dX5_isName_4 : decode cX5_isName 4 = .ok (.iconst 1, 1) := by decide +kernel
theorem dX5_isName_5 : decode cX5_isName 5 = .ok (.if_icmp .ne 16, 3) := by decide +kernel
theorem dX5_isName_8 : decode cX5_isName 8 = .ok (.aload_n 0, 1) := by decide +kernel
theorem dX5_isName_9 : decode cX5_isName 9 = .ok (.invokevirtual 156, 3) := by decide +kernel
theorem dX5_isName_12 : decode cX5_isName 12 = .ok (.bipush 8, 2) := by decide +kernel
theorem dX5_isName_14 : decode cX5_isName 14 = .ok (.if_icmp .gt 7, 3) := by decide +kernel
theorem dX5_isName_17 : decode cX5_isName 17 = .ok (.iconst 1, 1) := by decide +kernel
theorem dX5_isName_18 : decode cX5_isName 18 = .ok (.goto 4, 3) := by decide +kernel
theorem dX5_isName_21 : decode cX5_isName 21 = .ok (.iconst 0, 1) := by decide +kernel
theorem dX5_isName_22 : decode cX5_isName 22 = .ok (.ireturn, 1) := by decide +kernel
theorem dX5_nameOfToken_0 : decode cX5_nameOfToken 0 = .ok (.lconst 0, 1) := by decide +kernel
theorem dX5_nameOfToken_1 : decode cX5_nameOfToken 1 = .ok (.lstore_n 1, 1) := by decide +kernel
theorem dX5_nameOfToken_2 : decode cX5_nameOfToken 2 = .ok (.aload_n 0, 1) := by decide +kernel
theorem dX5_nameOfToken_3 : decode cX5_nameOfToken 3 = .ok (.getfield 143, 3) := by decide +kernel
theorem dX5_nameOfToken_6 : decode cX5_nameOfToken 6 = .ok (.istore_n 3, 1) := by decide +kernel
theorem dX5_nameOfToken_7 : decode cX5_nameOfToken 7 = .ok (.iload_n 3, 1) := by decide +kernel
theorem dX5_nameOfToken_8 : decode cX5_nameOfToken 8 = .ok (.aload_n 0, 1) := by decide +kernel
theorem dX5_nameOfToken_9 : decode cX5_nameOfToken 9 = .ok (.getfield 35, 3) := by decide +kernel
theorem dX5_nameOfToken_12 : decode cX5_nameOfToken 12 = .ok (.if_icmp .ge 21, 3) := by decide +kernel
theorem dX5_nameOfToken_15 : decode cX5_nameOfToken 15 = .ok (.lload_n 1, 1) := by decide +kernel
theorem dX5_nameOfToken_16 : decode cX5_nameOfToken 16 = .ok (.bipush 8, 2) := by decide +kernel
theorem dX5_nameOfToken_18 : decode cX5_nameOfToken 18 = .ok (.lshl, 1) := by decide +kernel
theorem dX5_nameOfToken_19 : decode cX5_nameOfToken 19 = .ok (.aload_n 0, 1) := by decide +kernel
theorem dX5_nameOfToken_20 : decode cX5_nameOfToken 20 = .ok (.iload_n 3, 1) := by decide +kernel
theorem dX5_nameOfToken_21 : decode cX5_nameOfToken 21 = .ok (.invokevirtual 149, 3) := by decide +kernel
theorem dX5_nameOfToken_24 : decode cX5_nameOfToken 24 = .ok (.i2l, 1) := by decide +kernel
theorem dX5_nameOfToken_25 : decode cX5_nameOfToken 25 = .ok (.lor, 1) := by decide +kernel
theorem dX5_nameOfToken_26 : decode cX5_nameOfToken 26 = .ok (.lstore_n 1, 1) := by decide +kernel
theorem dX5_nameOfToken_27 : decode cX5_nameOfToken 27 = .ok (.iinc 3 1, 3) := by decide +kernel
theorem dX5_nameOfToken_30 : decode cX5_nameOfToken 30 = .ok (.goto (-23), 3) := by decide +kernel
theorem dX5_nameOfToken_33 : decode cX5_nameOfToken 33 = .ok (.lload_n 1, 1) := by decide +kernel
theorem dX5_nameOfToken_34 : decode cX5_nameOfToken 34 = .ok (.lreturn, 1) := by decide +kernel
theorem dX5_isNumber_0 : decode cX5_isNumber 0 = .ok (.aload_n 0, 1) := by decide +kernel
theorem dX5_isNumber_1 : decode cX5_isNumber 1 = .ok (.getfield 48, 3) := by decide +kernel
theorem dX5_isNumber_4 : decode cX5_isNumber 4 = .ok (.iconst 2, 1) := by decide +kernel
theorem dX5_isNumber_5 : decode cX5_isNumber 5 = .ok (.if_icmp .ne 15, 3) := by decide +kernel
theorem dX5_isNumber_8 : decode cX5_isNumber 8 = .ok (.aload_n 0, 1) := by decide +kernel
theorem dX5_isNumber_9 : decode cX5_isNumber 9 = .ok (.invokevirtual 156, 3) := by decide +kernel
theorem dX5_isNumber_12 : decode cX5_isNumber 12 = .ok (.iconst 2, 1) := by decide +kernel
theorem dX5_isNumber_13 : decode cX5_isNumber 13 = .ok (.if_icmp .gt 7, 3) := by decide +kernel
theorem dX5_isNumber_16 : decode cX5_isNumber 16 = .ok (.iconst 1, 1) := by decide +kernel
theorem dX5_isNumber_17 : decode cX5_isNumber 17 = .ok (.goto 4, 3) := by decide +kernel
theorem dX5_isNumber_20 : decode cX5_isNumber 20 = .ok (.iconst 0, 1) := by decide +kernel
theorem dX5_isNumber_21 : decode cX5_isNumber 21 = .ok (.ireturn, 1) := by decide +kernel
theorem dX5_numberOfToken_0 : decode cX5_numberOfToken 0 = .ok (.iconst 0, 1) := by decide +kernel
theorem dX5_numberOfToken_1 : decode cX5_numberOfToken 1 = .ok (.istore_n 1, 1) := by decide +kernel
theorem dX5_numberOfToken_2 : decode cX5_numberOfToken 2 = .ok (.aload_n 0, 1) := by decide +kernel
theorem dX5_numberOfToken_3 : decode cX5_numberOfToken 3 = .ok (.getfield 143, 3) := by decide +kernel
theorem dX5_numberOfToken_6 : decode cX5_numberOfToken 6 = .ok (.istore_n 2, 1) := by decide +kernel
theorem dX5_numberOfToken_7 : decode cX5_numberOfToken 7 = .ok (.iload_n 2, 1) := by decide +kernel
theorem dX5_numberOfToken_8 : decode cX5_numberOfToken 8 = .ok (.aload_n 0, 1) := by decide +kernel
theorem dX5_numberOfToken_9 : decode cX5_numberOfToken 9 = .ok (.getfield 35, 3) := by decide +kernel
theorem dX5_numberOfToken_12 : decode cX5_numberOfToken 12 = .ok (.if_icmp .ge 23, 3) := by decide +kernel
theorem dX5_numberOfToken_15 : decode cX5_numberOfToken 15 = .ok (.bipush 10, 2) := by decide +kernel
theorem dX5_numberOfToken_17 : decode cX5_numberOfToken 17 = .ok (.iload_n 1, 1) := by decide +kernel
theorem dX5_numberOfToken_18 : decode cX5_numberOfToken 18 = .ok (.imul, 1) := by decide +kernel
theorem dX5_numberOfToken_19 : decode cX5_numberOfToken 19 = .ok (.aload_n 0, 1) := by decide +kernel
theorem dX5_numberOfToken_20 : decode cX5_numberOfToken 20 = .ok (.iload_n 2, 1) := by decide +kernel
theorem dX5_numberOfToken_21 : decode cX5_numberOfToken 21 = .ok (.invokevirtual 149, 3) := by decide +kernel
theorem dX5_numberOfToken_24 : decode cX5_numberOfToken 24 = .ok (.iadd, 1) := by decide +kernel
theorem dX5_numberOfToken_25 : decode cX5_numberOfToken 25 = .ok (.bipush 48, 2) := by decide +kernel
theorem dX5_numberOfToken_27 : decode cX5_numberOfToken 27 = .ok (.isub, 1) := by decide +kernel
theorem dX5_numberOfToken_28 : decode cX5_numberOfToken 28 = .ok (.istore_n 1, 1) := by decide +kernel
theorem dX5_numberOfToken_29 : decode cX5_numberOfToken 29 = .ok (.iinc 2 1, 3) := by decide +kernel
theorem dX5_numberOfToken_32 : decode cX5_numberOfToken 32 = .ok (.goto (-25), 3) := by decide +kernel
theorem dX5_numberOfToken_35 : decode cX5_numberOfToken 35 = .ok (.iload_n 1, 1) := by decide +kernel
theorem dX5_numberOfToken_36 : decode cX5_numberOfToken 36 = .ok (.ireturn, 1) := by decide +kernel
theorem dX5_kindOfToken_0 : decode cX5_kindOfToken 0 = .ok (.aload_n 0, 1) := by decide +kernel
theorem dX5_kindOfToken_1 : decode cX5_kindOfToken 1 = .ok (.ldc 168, 2) := by decide +kernel
theorem dX5_kindOfToken_3 : decode cX5_kindOfToken 3 = .ok (.invokevirtual 61, 3) := by decide +kernel
theorem dX5_kindOfToken_6 : decode cX5_kindOfToken 6 = .ok (.ifCond .eq 5, 3) := by decide +kernel
theorem dX5_kindOfToken_9 : decode cX5_kindOfToken 9 = .ok (.iconst 0, 1) := by decide +kernel
theorem dX5_kindOfToken_10 : decode cX5_kindOfToken 10 = .ok (.ireturn, 1) := by decide +kernel
theorem dX5_kindOfToken_11 : decode cX5_kindOfToken 11 = .ok (.aload_n 0, 1) := by decide +kernel
theorem dX5_kindOfToken_12 : decode cX5_kindOfToken 12 = .ok (.ldc 170, 2) := by decide +kernel
theorem dX5_kindOfToken_14 : decode cX5_kindOfToken 14 = .ok (.invokevirtual 61, 3) := by decide +kernel
theorem dX5_kindOfToken_17 : decode cX5_kindOfToken 17 = .ok (.ifCond .eq 5, 3) := by decide +kernel
theorem dX5_kindOfToken_20 : decode cX5_kindOfToken 20 = .ok (.iconst 1, 1) := by decide +kernel
theorem dX5_kindOfToken_21 : decode cX5_kindOfToken 21 = .ok (.ireturn, 1) := by decide +kernel
