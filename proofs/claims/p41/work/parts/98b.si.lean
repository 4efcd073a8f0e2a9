/-! the StringBuilder: append of a number below 100 -/
theorem neg_le {a b : Nat} (ha : a < 2 ^ 31) (hb : b < 2 ^ 31) : -nI a ≤ -nI b ↔ b ≤ a := sb_nle ha hb
theorem neg_lt {a b : Nat} (ha : a < 2 ^ 31) (hb : b < 2 ^ 31) : -nI a < -nI b ↔ b < a := sb_nlt ha hb
theorem dg_ok : ∀ v, v < 100 → (g_dgO v).toInt8.toInt32 = nI (48 + v % 10) ∧ (g_dgT v).toInt8.toInt32 = nI (48 + v / 10) := by decide +kernel
def gcI (I : Nat → Nat → Int32) (a v n : Nat) : Nat → Nat → Int32 := if v < 10 then up2 I a n (nI (48 + v % 10)) else up2 (up2 I a (n + 1) (nI (48 + v % 10))) a n (nI (48 + v / 10))
theorem gcI_o {I : Nat → Nat → Int32} {a v n o : Nat} (h : o ≠ a) : gcI I a v n o = I o := by
  funext b
  unfold gcI
  split
  · exact up2_n _ _ (by omega)
  · rw [up2_n _ _ (by omega), up2_n _ _ (by omega)]
theorem gcI_lo {I : Nat → Nat → Int32} {a v n b : Nat} (h : b < n) : gcI I a v n a b = I a b := by
  unfold gcI
  split
  · exact up2_n _ _ (by omega)
  · rw [up2_n _ _ (by omega), up2_n _ _ (by omega)]
theorem gcI_in {I : Nat → Nat → Int32} {a v n j : Nat} (hv : v < 100) (h : j < dgN v) : dgL v j < 128 ∧ gcI I a v n a (n + j) = nI (dgL v j) := by
  unfold dgN at h
  unfold gcI dgL
  by_cases hv1 : v < 10
  · rw [if_pos hv1] at h
    obtain rfl : j = 0 := by omega
    rw [if_pos hv1, if_pos hv1, Nat.add_zero, up2_s, show v % 10 = v by omega]
    exact ⟨by omega, rfl⟩
  · rw [if_neg hv1] at h
    rw [if_neg hv1, if_neg hv1]
    rcases (show j = 0 ∨ j = 1 by omega) with rfl | rfl
    · rw [if_pos rfl]
      exact ⟨by omega, up2_s ..⟩
    · rw [if_neg (by decide), up2_n _ _ (by omega), up2_s]
      exact ⟨by omega, rfl⟩
section SBI
variable (E : GE) (l : Launch)
variable {I : Nat → Nat → Int32} {J : Nat → Nat → Int64} {R : Nat → Nat → Option Nat} {D : Nat → Nat → UInt64} {N : Nat} {ex : Bool} {t : Nat → Nat} {n k : Nat}
set_option maxRecDepth 100000 in
theorem c_I_stringSize {v : Nat} (hv : v < 100) (w : GW) : g_Ct E l mJ6_stringSize_0f7a4 0 0 0 0 [.int (nI v)] w (g_is (some (.int (nI (dgN v)))) w) := by
  refine g_Ct.of (by decide +kernel) (lb rfl) ?_
  by_cases h10 : v < 10
  · refine w_iconst (v := 1) dJ6_stringSize_0f7a4_0 (by decide) ?_
    refine w_istore_n dJ6_stringSize_0f7a4_1 (by decide) rfl ?_
    refine w_iload_n dJ6_stringSize_0f7a4_2 rfl ?_
    refine w_if_lt (tgt := 11) dJ6_stringSize_0f7a4_3 (by decide) (fun c_3 => absurd c_3 ((nI_pos (by omega)))) (fun c_3 => ?_)
    refine w_iconst (v := 0) dJ6_stringSize_0f7a4_6 (by decide) ?_
    refine w_istore_n dJ6_stringSize_0f7a4_7 (by decide) rfl ?_
    refine w_iload_n dJ6_stringSize_0f7a4_8 rfl ?_
    refine w_ineg dJ6_stringSize_0f7a4_9 ?_
    refine w_istore_n dJ6_stringSize_0f7a4_10 (by decide) rfl ?_
    refine w_bipush (v := (-10)) dJ6_stringSize_0f7a4_11 (by decide) ?_
    refine w_istore_n dJ6_stringSize_0f7a4_13 (by decide) rfl ?_
    refine w_iconst (v := 1) dJ6_stringSize_0f7a4_14 (by decide) ?_
    refine w_istore_n dJ6_stringSize_0f7a4_15 (by decide) rfl ?_
    refine w_iload_n dJ6_stringSize_0f7a4_16 rfl ?_
    refine w_bipush (v := 10) dJ6_stringSize_0f7a4_17 (by decide) ?_
    refine w_icmp_ge (tgt := 42) dJ6_stringSize_0f7a4_19 (by decide) (fun c_19 => absurd c_19 ((show ¬ (10 : Int32) ≤ 1 from by decide))) (fun c_19 => ?_)
    refine w_iload_n dJ6_stringSize_0f7a4_22 rfl ?_
    refine w_iload_n dJ6_stringSize_0f7a4_23 rfl ?_
    refine w_icmp_le (tgt := 31) dJ6_stringSize_0f7a4_24 (by decide) (fun c_24 => absurd c_24 ((fun z => absurd ((neg_le (a := v) (b := 10) (by omega) (by decide)).mp z) (by omega)))) (fun c_24 => ?_)
    refine w_iload_n dJ6_stringSize_0f7a4_27 rfl ?_
    refine w_iload_n dJ6_stringSize_0f7a4_28 rfl ?_
    refine w_iadd dJ6_stringSize_0f7a4_29 ?_
    refine w_iret dJ6_stringSize_0f7a4_30 rfl rfl ⟨rt_i (by unfold dgN; rw [if_pos h10]; rfl), rfl⟩ (by decide) (by decide)
  · refine w_iconst (v := 1) dJ6_stringSize_0f7a4_0 (by decide) ?_
    refine w_istore_n dJ6_stringSize_0f7a4_1 (by decide) rfl ?_
    refine w_iload_n dJ6_stringSize_0f7a4_2 rfl ?_
    refine w_if_lt (tgt := 11) dJ6_stringSize_0f7a4_3 (by decide) (fun c_3 => absurd c_3 ((nI_pos (by omega)))) (fun c_3 => ?_)
    refine w_iconst (v := 0) dJ6_stringSize_0f7a4_6 (by decide) ?_
    refine w_istore_n dJ6_stringSize_0f7a4_7 (by decide) rfl ?_
    refine w_iload_n dJ6_stringSize_0f7a4_8 rfl ?_
    refine w_ineg dJ6_stringSize_0f7a4_9 ?_
    refine w_istore_n dJ6_stringSize_0f7a4_10 (by decide) rfl ?_
    refine w_bipush (v := (-10)) dJ6_stringSize_0f7a4_11 (by decide) ?_
    refine w_istore_n dJ6_stringSize_0f7a4_13 (by decide) rfl ?_
    refine w_iconst (v := 1) dJ6_stringSize_0f7a4_14 (by decide) ?_
    refine w_istore_n dJ6_stringSize_0f7a4_15 (by decide) rfl ?_
    skip
    refine w_iload_n dJ6_stringSize_0f7a4_16 rfl ?_
    refine w_bipush (v := 10) dJ6_stringSize_0f7a4_17 (by decide) ?_
    refine w_icmp_ge (tgt := 42) dJ6_stringSize_0f7a4_19 (by decide) (fun c_19 => absurd c_19 ((show ¬ (10 : Int32) ≤ 1 from by decide))) (fun c_19 => ?_)
    refine w_iload_n dJ6_stringSize_0f7a4_22 rfl ?_
    refine w_iload_n dJ6_stringSize_0f7a4_23 rfl ?_
    refine w_icmp_le (tgt := 31) dJ6_stringSize_0f7a4_24 (by decide) (fun c_24 => ?_) (fun c_24 => absurd (((neg_le (a := v) (b := 10) (by omega) (by decide)).mpr (by omega))) c_24)
    refine w_bipush (v := 10) dJ6_stringSize_0f7a4_31 (by decide) ?_
    refine w_iload_n dJ6_stringSize_0f7a4_33 rfl ?_
    refine w_imul dJ6_stringSize_0f7a4_34 ?_
    refine w_istore_n dJ6_stringSize_0f7a4_35 (by decide) rfl ?_
    refine w_iinc (v := 2) dJ6_stringSize_0f7a4_36 rfl (by decide) (by decide) rfl ?_
    refine w_goto (tgt := 16) dJ6_stringSize_0f7a4_39 (by decide) ?_
    skip
    refine w_iload_n dJ6_stringSize_0f7a4_16 rfl ?_
    refine w_bipush (v := 10) dJ6_stringSize_0f7a4_17 (by decide) ?_
    refine w_icmp_ge (tgt := 42) dJ6_stringSize_0f7a4_19 (by decide) (fun c_19 => absurd c_19 (show ¬ (10 : Int32) ≤ 2 from by decide)) (fun c_19 => ?_)
    refine w_iload_n dJ6_stringSize_0f7a4_22 rfl ?_
    refine w_iload_n dJ6_stringSize_0f7a4_23 rfl ?_
    refine w_icmp_le (tgt := 31) dJ6_stringSize_0f7a4_24 (by decide) (fun c_24 => absurd c_24 (fun z => absurd ((neg_le (a := v) (b := 100) (by omega) (by decide)).mp z) (by omega))) (fun c_24 => ?_)
    refine w_iload_n dJ6_stringSize_0f7a4_27 rfl ?_
    refine w_iload_n dJ6_stringSize_0f7a4_28 rfl ?_
    refine w_iadd dJ6_stringSize_0f7a4_29 ?_
    refine w_iret dJ6_stringSize_0f7a4_30 rfl rfl ⟨rt_i (by unfold dgN; rw [if_neg h10]; rfl), rfl⟩ (by decide) (by decide)
set_option maxRecDepth 100000 in
theorem c_I_getChars (hv : g_lvs E) {v : Nat} (hv1 : v < 100) (hk : k < 4) (hN : 81 + k < N) (hc : n + dgN v ≤ cap k) : g_Ct E l mJ6_getChars_ba4f3 0 0 0 0 [.int (nI v), .int (nI (n + dgN v)), .ref (81 + k)] (I, J, R, D, N, ex) (g_is (some (.int (nI n))) (gcI I (81 + k) v n, J, R, D, N, ex)) := by
  refine g_Ct.of (by decide +kernel) (lb rfl) ?_
  have hcb := cap_b k hk
  have d := dg_ok v hv1
  by_cases h10 : v < 10
  · have e1 : dgN v = 1 := if_pos h10
    have e2 : gcI I (81 + k) v n = up2 I (81 + k) n (nI (48 + v % 10)) := if_pos h10
    rw [e1] at hc
    rw [e1, e2]
    refine w_iload_n dJ6_getChars_ba4f3_0 rfl ?_
    refine w_istore dJ6_getChars_ba4f3_1 (by decide) rfl ?_
    refine w_iload_n dJ6_getChars_ba4f3_3 rfl ?_
    refine w_if_ge (tgt := 11) dJ6_getChars_ba4f3_4 (by decide) (fun c_4 => ?_) (fun c_4 => absurd ((nI_pos' (by omega))) c_4)
    refine w_iconst (v := 0) dJ6_getChars_ba4f3_11 (by decide) ?_
    refine w_istore dJ6_getChars_ba4f3_12 (by decide) rfl ?_
    refine w_iload dJ6_getChars_ba4f3_14 rfl ?_
    refine w_if_ne (tgt := 22) dJ6_getChars_ba4f3_16 (by decide) (fun c_16 => absurd (rfl) c_16) (fun c_16 => ?_)
    refine w_iload_n dJ6_getChars_ba4f3_19 rfl ?_
    refine w_ineg dJ6_getChars_ba4f3_20 ?_
    refine w_istore_n dJ6_getChars_ba4f3_21 (by decide) rfl ?_
    refine w_iload_n dJ6_getChars_ba4f3_22 rfl ?_
    refine w_bipush (v := (-100)) dJ6_getChars_ba4f3_23 (by decide) ?_
    refine w_icmp_gt (tgt := 72) dJ6_getChars_ba4f3_25 (by decide) (fun c_25 => ?_) (fun c_25 => absurd (((neg_lt (a := 100) (b := v) (by decide) (by omega)).mpr (by omega))) c_25)
    refine w_aload_n dJ6_getChars_ba4f3_72 rfl ?_
    refine w_iinc (v := nI n) dJ6_getChars_ba4f3_73 rfl (nI_dec n) (by decide) rfl ?_
    refine w_iload dJ6_getChars_ba4f3_76 rfl ?_
    refine w_getsO dJ6_getChars_ba4f3_78 fe_java_lang_Integer_83 ?_
    refine w_iload_n dJ6_getChars_ba4f3_81 rfl ?_
    refine w_ineg dJ6_getChars_ba4f3_82 ?_
    rw [Int32.neg_neg]
    refine w_baldD (t := 201) (j := v) (f := g_dgO) dJ6_getChars_ba4f3_83 (fun _ h => dg_O h) (by decide) rfl hv1 ?_
    refine x_bast15 (j := n) dJ6_getChars_ba4f3_84 (by rw [ob_ar k hk]) (by omega) (hv _ (by omega) (by omega)) rfl (by rw [ob_ar k hk]; show n < cap k; omega) ?_
    rw [d.1]
    refine w_iload_n dJ6_getChars_ba4f3_85 rfl ?_
    refine w_bipush (v := (-9)) dJ6_getChars_ba4f3_86 (by decide) ?_
    refine w_icmp_ge (tgt := 104) dJ6_getChars_ba4f3_88 (by decide) (fun c_88 => ?_) (fun c_88 => absurd (((neg_le (a := 9) (b := v) (by decide) (by omega)).mpr (by omega))) c_88)
    refine w_iload dJ6_getChars_ba4f3_104 rfl ?_
    refine w_if_eq (tgt := 118) dJ6_getChars_ba4f3_106 (by decide) (fun c_106 => ?_) (fun c_106 => absurd (rfl) c_106)
    refine w_iload dJ6_getChars_ba4f3_118 rfl ?_
    refine w_iret dJ6_getChars_ba4f3_120 rfl rfl ⟨rfl, rfl⟩ (by decide) (by decide)
  · have e1 : dgN v = 2 := if_neg h10
    have e2 : gcI I (81 + k) v n = up2 (up2 I (81 + k) (n + 1) (nI (48 + v % 10))) (81 + k) n (nI (48 + v / 10)) := if_neg h10
    rw [e1] at hc
    rw [e1, e2]
    refine w_iload_n dJ6_getChars_ba4f3_0 rfl ?_
    refine w_istore dJ6_getChars_ba4f3_1 (by decide) rfl ?_
    refine w_iload_n dJ6_getChars_ba4f3_3 rfl ?_
    refine w_if_ge (tgt := 11) dJ6_getChars_ba4f3_4 (by decide) (fun c_4 => ?_) (fun c_4 => absurd ((nI_pos' (by omega))) c_4)
    refine w_iconst (v := 0) dJ6_getChars_ba4f3_11 (by decide) ?_
    refine w_istore dJ6_getChars_ba4f3_12 (by decide) rfl ?_
    refine w_iload dJ6_getChars_ba4f3_14 rfl ?_
    refine w_if_ne (tgt := 22) dJ6_getChars_ba4f3_16 (by decide) (fun c_16 => absurd (rfl) c_16) (fun c_16 => ?_)
    refine w_iload_n dJ6_getChars_ba4f3_19 rfl ?_
    refine w_ineg dJ6_getChars_ba4f3_20 ?_
    refine w_istore_n dJ6_getChars_ba4f3_21 (by decide) rfl ?_
    refine w_iload_n dJ6_getChars_ba4f3_22 rfl ?_
    refine w_bipush (v := (-100)) dJ6_getChars_ba4f3_23 (by decide) ?_
    refine w_icmp_gt (tgt := 72) dJ6_getChars_ba4f3_25 (by decide) (fun c_25 => ?_) (fun c_25 => absurd (((neg_lt (a := 100) (b := v) (by decide) (by omega)).mpr (by omega))) c_25)
    refine w_aload_n dJ6_getChars_ba4f3_72 rfl ?_
    refine w_iinc (v := nI (n + 1)) dJ6_getChars_ba4f3_73 rfl (nI_dec (n + 1)) (by decide) rfl ?_
    refine w_iload dJ6_getChars_ba4f3_76 rfl ?_
    refine w_getsO dJ6_getChars_ba4f3_78 fe_java_lang_Integer_83 ?_
    refine w_iload_n dJ6_getChars_ba4f3_81 rfl ?_
    refine w_ineg dJ6_getChars_ba4f3_82 ?_
    rw [Int32.neg_neg]
    refine w_baldD (t := 201) (j := v) (f := g_dgO) dJ6_getChars_ba4f3_83 (fun _ h => dg_O h) (by decide) rfl hv1 ?_
    refine x_bast15 (j := n + 1) dJ6_getChars_ba4f3_84 (by rw [ob_ar k hk]) (by omega) (hv _ (by omega) (by omega)) rfl (by rw [ob_ar k hk]; show n + 1 < cap k; omega) ?_
    rw [d.1]
    refine w_iload_n dJ6_getChars_ba4f3_85 rfl ?_
    refine w_bipush (v := (-9)) dJ6_getChars_ba4f3_86 (by decide) ?_
    refine w_icmp_ge (tgt := 104) dJ6_getChars_ba4f3_88 (by decide) (fun c_88 => absurd c_88 ((fun z => absurd ((neg_le (a := 9) (b := v) (by decide) (by omega)).mp z) (by omega)))) (fun c_88 => ?_)
    refine w_aload_n dJ6_getChars_ba4f3_91 rfl ?_
    refine w_iinc (v := nI n) dJ6_getChars_ba4f3_92 rfl (nI_dec n) (by decide) rfl ?_
    refine w_iload dJ6_getChars_ba4f3_95 rfl ?_
    refine w_getsT dJ6_getChars_ba4f3_97 fe_java_lang_Integer_87 ?_
    refine w_iload_n dJ6_getChars_ba4f3_100 rfl ?_
    refine w_ineg dJ6_getChars_ba4f3_101 ?_
    rw [Int32.neg_neg]
    refine w_baldD (t := 202) (j := v) (f := g_dgT) dJ6_getChars_ba4f3_102 (fun _ h => dg_T h) (by decide) rfl hv1 ?_
    refine x_bast15 (j := n) dJ6_getChars_ba4f3_103 (by rw [ob_ar k hk]) (by omega) (hv _ (by omega) (by omega)) rfl (by rw [ob_ar k hk]; show n < cap k; omega) ?_
    rw [d.2]
    refine w_iload dJ6_getChars_ba4f3_104 rfl ?_
    refine w_if_eq (tgt := 118) dJ6_getChars_ba4f3_106 (by decide) (fun c_106 => ?_) (fun c_106 => absurd (rfl) c_106)
    refine w_iload dJ6_getChars_ba4f3_118 rfl ?_
    refine w_iret dJ6_getChars_ba4f3_120 rfl rfl ⟨rfl, rfl⟩ (by decide) (by decide)
theorem sbW.num {I1 : Nat → Nat → Int32} {R1 : Nat → Nat → Option Nat} {k1 v : Nat} (h : sbW I1 J R1 D t n k1) (hm : n + dgN v ≤ cap k1) (hv : v < 100) : sbW (up2 (gcI I1 (81 + k1) v n) 80 3 (nI (n + dgN v))) J R1 D (sb_cat t n (dgL v)) (n + dgN v) k1 := by
  obtain ⟨⟨g1, g2, g3, g4, g5, g6, g7⟩, hz⟩ := h
  refine ⟨⟨g1, g2, by rw [up2_n _ _ (by omega), gcI_o (by omega)]; exact g3, up2_s .., hm, fun i hi => ?_, fun i => ?_⟩, ?_⟩
  · rw [up2_n _ _ (by omega)]
    rcases Nat.lt_or_ge i n with q | q
    · rw [gcI_lo q, sb_cat_lo q]
      exact g6 i q
    · have e := gcI_in (I := I1) (a := 81 + k1) (n := n) (j := i - n) hv (by omega)
      have e2 := sb_cat_hi (t := t) (s := dgL v) (n := n) (j := i - n)
      rw [show n + (i - n) = i by omega] at e e2
      rw [e2]
      exact e
  · rw [up2_n _ _ (by omega)]
    have hd1 : 48 + v % 10 < 128 := by omega
    have hd2 : 48 + v / 10 < 128 := by omega
    unfold gcI
    split
    · by_cases q : i = n
      · rw [q, up2_s]; exact ft7 _ hd1
      · rw [up2_n _ _ (by omega)]; exact g7 i
    · by_cases q : i = n
      · rw [q, up2_s]; exact ft7 _ hd2
      · by_cases q2 : i = n + 1
        · rw [up2_n _ _ (by omega), q2, up2_s]; exact ft7 _ hd1
        · rw [up2_n _ _ (by omega), up2_n _ _ (by omega)]; exact g7 i
  · refine g_zf.i (fun o ho b => ?_) (by omega)
    obtain ⟨z1, z2, z3, z4⟩ := hz o ho b
    exact ⟨by rw [gcI_o (by omega)]; exact z1, z2, z3, z4⟩
set_option maxRecDepth 100000 in
theorem c_B_appendI (hv : g_lvs E) (h : sbW I J R D t n k) {v : Nat} (hv1 : v < 100) (hn : n + dgN v ≤ 142) : g_Ct E l mJ5_append_c97b9 4 104 1 142 [.ref 80, .int (nI v)] (I, J, R, D, 82 + k, true) (sbZ (some (.ref 80)) J D I R (sb_cat t n (dgL v)) (n + dgN v) 0) := by
  refine g_Ct.of (by decide +kernel) (lb rfl) ?_
  have h4 := h.1.2.2.2.1
  have hd : dgN v ≤ 2 := by unfold dgN; split <;> decide
  refine w_aload_n dJ5_append_c97b9_0 rfl ?_
  refine x_geti (ci := 7) (k := 3) dJ5_append_c97b9_1 rfl (by decide) (by decide) (by omega) fl_J5_79 rfl ?_
  rw [h4]
  refine w_istore_n dJ5_append_c97b9_4 (by decide) rfl ?_
  refine w_iload_n dJ5_append_c97b9_5 rfl ?_
  refine w_iload_n dJ5_append_c97b9_6 rfl ?_
  refine y_callS dJ5_append_c97b9_7 lk_J5_245 [.int (nI v)] rfl (c_I_stringSize E l hv1 _) rfl ⟨⟨by decide, by decide⟩, by decide, by decide⟩ (lb rfl) ?_
  refine w_iadd dJ5_append_c97b9_10 ?_
  rw [nI_add]
  refine w_istore_n dJ5_append_c97b9_11 (by decide) rfl ?_
  refine w_aload_n dJ5_append_c97b9_12 rfl ?_
  refine w_iload_n dJ5_append_c97b9_13 rfl ?_
  refine sb_callU dJ5_append_c97b9_14 lk_J5_100 [.int (nI (n + dgN v))] rfl (c_B_ensure E l hv h (by omega) hn) (g_recv.obj (ci := 7) rfl (by decide) (show 80 < 82 + k by omega)) rfl ⟨⟨by decide, by decide⟩, by decide, by decide⟩ (lb rfl) (fun I1 R1 k1 h1 q1 f1 => ?_)
  have g3 := h1.1.2.2.1
  have g2 := h1.1.2.1
  have hk1 := h1.1.1
  refine w_aload_n dJ5_append_c97b9_17 rfl ?_
  refine y_callU dJ5_append_c97b9_18 lk_J5_83 [] rfl (c_B_isLatin1 E l (show 80 < 82 + k1 by omega) g3) (g_recv.obj (ci := 7) rfl (by decide) (show 80 < 82 + k1 by omega)) rfl ⟨⟨by decide, by decide⟩, by decide, by decide⟩ (lb rfl) ?_
  refine w_if_eq (tgt := 37) dJ5_append_c97b9_21 (by decide) (fun c_21 => absurd c_21 ((show ¬ (1 : Int32) = 0 from by decide))) (fun c_21 => ?_)
  refine w_iload_n dJ5_append_c97b9_24 rfl ?_
  refine w_iload_n dJ5_append_c97b9_25 rfl ?_
  refine w_aload_n dJ5_append_c97b9_26 rfl ?_
  refine x_getr (ci := 7) (k := 0) (a := 81 + k1) dJ5_append_c97b9_27 rfl (by decide) (by decide) (by omega) fl_J5_15 (Or.inr ⟨_, rfl⟩) g2 ?_
  refine y_callS dJ5_append_c97b9_30 lk_J5_248 [.int (nI v), .int (nI (n + dgN v)), .ref (81 + k1)] rfl (c_I_getChars E l hv hv1 hk1 (show 81 + k1 < 82 + k1 by omega) q1) rfl ⟨⟨by decide, by decide⟩, by decide, by decide⟩ (lb rfl) ?_
  refine w_pop dJ5_append_c97b9_33 rfl ?_
  refine w_goto (tgt := 48) dJ5_append_c97b9_34 (by decide) ?_
  refine w_aload_n dJ5_append_c97b9_48 rfl ?_
  refine w_iload_n dJ5_append_c97b9_49 rfl ?_
  refine x_puti (ci := 7) (k := 3) dJ5_append_c97b9_50 rfl (by decide) (by decide) (by omega) fl_J5_79 rfl rfl ?_
  refine w_aload_n dJ5_append_c97b9_53 rfl ?_
  refine w_aret dJ5_append_c97b9_54 rfl (Or.inl ⟨_, rfl⟩) ⟨_, _, k1, rfl, rfl, h1.num q1 hv1, Nat.zero_le _, ⟨fun o ho => by rw [← f1.1 o ho]; funext b; rw [up2_n _ _ (by omega), gcI_o (by omega)], f1.2⟩⟩ (by decide) (by decide)
set_option maxRecDepth 100000 in
theorem c_SB_appendI (hv : g_lvs E) (h : sbW I J R D t n k) {v : Nat} (hv1 : v < 100) (hn : n + dgN v ≤ 142) : g_Ct E l mJ4_append_bf812 5 127 1 142 [.ref 80, .int (nI v)] (I, J, R, D, 82 + k, true) (sbZ (some (.ref 80)) J D I R (sb_cat t n (dgL v)) (n + dgN v) 0) := by
  refine g_Ct.of (by decide +kernel) (lb rfl) ?_
  refine w_aload_n dJ4_append_bf812_0 rfl ?_
  refine w_iload_n dJ4_append_bf812_1 rfl ?_
  refine sb_callP dJ4_append_bf812_2 lk_J4_53 [.int (nI v)] rfl (c_B_appendI E l hv h hv1 hn) (g_recv.obj (ci := 7) rfl (by decide) (show 80 < 82 + k by omega)) rfl ⟨⟨by decide, by decide⟩, by decide, by decide⟩ (lb rfl) (fun I1 R1 k1 h1 q1 f1 => ?_)
  refine w_pop dJ4_append_bf812_5 rfl ?_
  refine w_aload_n dJ4_append_bf812_6 rfl ?_
  refine w_aret dJ4_append_bf812_7 rfl (Or.inl ⟨_, rfl⟩) ⟨_, _, k1, rfl, rfl, h1, Nat.zero_le _, f1⟩ (by decide) (by decide)
end SBI
