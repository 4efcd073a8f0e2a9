/-! the words: String.length, String.charAt -/
def wl (i : Nat) : Nat := g_wl.getD i 0
def wb (i j : Nat) : Int32 := (g_wb.getD i []).getD j 0
section ST
variable (E : GE) (l : Launch) (w : GW)
set_option maxRecDepth 100000 in
theorem c_S_coder {i : Nat} (hi : i < 21) : g_Ct E l mJ0_coder_7d493 0 0 0 0 [.ref (1001 + i)] w (g_is (some (.int 0)) w) := by
  refine g_Ct.of (by decide +kernel) (lb rfl) ?_
  refine w_getsC dJ0_coder_7d493_0 fe_java_lang_String_38 ?_
  refine w_if_eq (tgt := 13) dJ0_coder_7d493_3 (by decide) (fun c_3 => absurd c_3 ((show ¬ (1 : Int32) = 0 from by decide))) (fun c_3 => ?_)
  refine w_aload_n dJ0_coder_7d493_6 rfl ?_
  refine w_getSc dJ0_coder_7d493_7 fe_java_lang_String_15 hi ?_
  refine w_goto (tgt := 14) dJ0_coder_7d493_10 (by decide) ?_
  refine w_iret dJ0_coder_7d493_14 rfl rfl ⟨rfl, rfl⟩ (by decide) (by decide)
set_option maxRecDepth 100000 in
theorem c_S_length {i : Nat} (hi : i < 21) : g_Ct E l mJ0_length_8abf5 1 20 0 0 [.ref (1001 + i)] w (g_is (some (.int (nI (wl i)))) w) := by
  refine g_Ct.of (by decide +kernel) (lb rfl) ?_
  have h31 : ∀ i, i < 21 → wl i < 2 ^ 31 := by decide
  refine w_aload_n dJ0_length_8abf5_0 rfl ?_
  refine w_getSv dJ0_length_8abf5_1 fe_java_lang_String_9 hi ?_
  refine w_alenS dJ0_length_8abf5_4 hi ?_
  refine w_aload_n dJ0_length_8abf5_5 rfl ?_
  refine y_callV dJ0_length_8abf5_6 lk_J0_335 [] rfl (c_S_coder E l w hi) (g_recv.str hi) rfl ⟨⟨by decide, by decide⟩, by decide, by decide⟩ (lb rfl) ?_
  refine w_ishr dJ0_length_8abf5_9 ?_
  refine w_iret dJ0_length_8abf5_10 rfl rfl ⟨rt_i (by have := nx_shr (x := wl i) (c := 0) (h31 i hi) (by decide); rw [Nat.pow_zero, Nat.div_one] at this; exact this), rfl⟩ (by decide) (by decide)
set_option maxRecDepth 100000 in
theorem c_S_isLatin1 {i : Nat} (hi : i < 21) : g_Ct E l mJ0_isLatin1_aae02 0 0 0 0 [.ref (1001 + i)] w (g_is (some (.int 1)) w) := by
  refine g_Ct.of (by decide +kernel) (lb rfl) ?_
  refine w_getsC dJ0_isLatin1_aae02_0 fe_java_lang_String_38 ?_
  refine w_if_eq (tgt := 17) dJ0_isLatin1_aae02_3 (by decide) (fun c_3 => absurd c_3 ((show ¬ (1 : Int32) = 0 from by decide))) (fun c_3 => ?_)
  refine w_aload_n dJ0_isLatin1_aae02_6 rfl ?_
  refine w_getSc dJ0_isLatin1_aae02_7 fe_java_lang_String_15 hi ?_
  refine w_if_ne (tgt := 17) dJ0_isLatin1_aae02_10 (by decide) (fun c_10 => absurd (rfl) c_10) (fun c_10 => ?_)
  refine w_iconst (v := 1) dJ0_isLatin1_aae02_13 (by decide) ?_
  refine w_goto (tgt := 18) dJ0_isLatin1_aae02_14 (by decide) ?_
  refine w_iret dJ0_isLatin1_aae02_18 rfl (by rfl) ⟨rfl, rfl⟩ (by decide) (by decide)
set_option maxRecDepth 100000 in
theorem c_P_checkIndex {j n : Nat} (hj : j < n) (hn : n < 2 ^ 31) {v : Value} (hv : v = .null ∨ ∃ q, v = .retAddr q) : g_Ct E l mJ3_checkIndex_8e157 0 0 0 0 [.int (nI j), .int (nI n), v] w (g_is (some (.int (nI j))) w) := by
  rcases hv with rfl | ⟨q, rfl⟩
  · refine g_Ct.of (by decide +kernel) (lb rfl) ?_
    refine w_iload_n dJ3_checkIndex_8e157_0 rfl ?_
    refine w_if_lt (tgt := 9) dJ3_checkIndex_8e157_1 (by decide) (fun c_1 => absurd c_1 ((nI_pos (by omega)))) (fun c_1 => ?_)
    refine w_iload_n dJ3_checkIndex_8e157_4 rfl ?_
    refine w_iload_n dJ3_checkIndex_8e157_5 rfl ?_
    refine w_icmp_lt (tgt := 16) dJ3_checkIndex_8e157_6 (by decide) (fun c_6 => ?_) (fun c_6 => absurd ((nI_lt (by omega) (by omega))) c_6)
    refine w_iload_n dJ3_checkIndex_8e157_16 rfl ?_
    refine w_iret dJ3_checkIndex_8e157_17 rfl rfl ⟨rfl, rfl⟩ (by decide) (by decide)
  · refine g_Ct.of (by decide +kernel) (lb rfl) ?_
    refine w_iload_n dJ3_checkIndex_8e157_0 rfl ?_
    refine w_if_lt (tgt := 9) dJ3_checkIndex_8e157_1 (by decide) (fun c_1 => absurd c_1 ((nI_pos (by omega)))) (fun c_1 => ?_)
    refine w_iload_n dJ3_checkIndex_8e157_4 rfl ?_
    refine w_iload_n dJ3_checkIndex_8e157_5 rfl ?_
    refine w_icmp_lt (tgt := 16) dJ3_checkIndex_8e157_6 (by decide) (fun c_6 => ?_) (fun c_6 => absurd ((nI_lt (by omega) (by omega))) c_6)
    refine w_iload_n dJ3_checkIndex_8e157_16 rfl ?_
    refine w_iret dJ3_checkIndex_8e157_17 rfl rfl ⟨rfl, rfl⟩ (by decide) (by decide)
set_option maxRecDepth 100000 in
theorem c_S_checkIndex {j n : Nat} (hj : j < n) (hn : n < 2 ^ 31) : g_Ct E l mJ0_checkIndex_df160 1 22 0 0 [.int (nI j), .int (nI n)] w (g_is none w) := by
  refine g_Ct.of (by decide +kernel) (lb rfl) ?_
  refine w_iload_n dJ0_checkIndex_df160_0 rfl ?_
  refine w_iload_n dJ0_checkIndex_df160_1 rfl ?_
  refine w_getsF dJ0_checkIndex_df160_2 fe_java_lang_String_1053 (fun fv hfv => ?_)
  refine y_callS dJ0_checkIndex_df160_5 lk_J0_1059 [.int (nI j), .int (nI n), fv] rfl (c_P_checkIndex E l w hj hn hfv) rfl ⟨⟨by decide, by decide⟩, by decide, by decide⟩ (lb rfl) ?_
  refine w_pop dJ0_checkIndex_df160_8 rfl ?_
  refine w_vret dJ0_checkIndex_df160_9 rfl ⟨rfl, rfl⟩ (by decide) (by decide)
theorem wb_c9 : ∀ i, i < 21 → ∀ j, j < wl i → ((wb i j &&& 255).toUInt32 % 65536).toInt32 = wb i j ∧ narrow .char (.int (wb i j)) = .int (wb i j) := by decide +kernel
theorem wl_lt : ∀ i, i < 21 → wl i < 20 := by decide
set_option maxRecDepth 100000 in
theorem c_L1_charAt {i j : Nat} (hi : i < 21) (hj : j < wl i) : g_Ct E l mJ1_charAt_3b067 2 43 0 0 [.ref (1101 + i), .int (nI j)] w (g_is (some (.int (wb i j))) w) := by
  refine g_Ct.of (by decide +kernel) (lb rfl) ?_
  have hl := wl_lt i hi
  obtain ⟨e1, e2⟩ := wb_c9 i hi j hj
  refine w_iload_n dJ1_charAt_3b067_0 rfl ?_
  refine w_aload_n dJ1_charAt_3b067_1 rfl ?_
  refine w_alenS dJ1_charAt_3b067_2 hi ?_
  refine z_callS dJ1_charAt_3b067_3 lk_J1_9 [.int (nI j), .int (nI (wl i))] rfl (c_S_checkIndex E l w hj (by omega)) rfl ⟨⟨by decide, by decide⟩, by decide, by decide⟩ (lb rfl) ?_
  refine w_aload_n dJ1_charAt_3b067_6 rfl ?_
  refine w_iload_n dJ1_charAt_3b067_7 rfl ?_
  refine w_baldS (j := j) dJ1_charAt_3b067_8 hi rfl hj ?_
  refine w_sipush (v := 255) dJ1_charAt_3b067_9 (by decide) ?_
  refine w_iand dJ1_charAt_3b067_12 ?_
  refine w_i2c dJ1_charAt_3b067_13 ?_
  refine w_st (show _ = [.int (wb i j)] from congrArg (fun x => [Value.int x]) e1) ?_
  refine w_iret dJ1_charAt_3b067_14 rfl e2 ⟨rfl, rfl⟩ (by decide) (by decide)
set_option maxRecDepth 100000 in
theorem c_S_charAt {i j : Nat} (hi : i < 21) (hj : j < wl i) : g_Ct E l mJ0_charAt_5068e 3 64 0 0 [.ref (1001 + i), .int (nI j)] w (g_is (some (.int (wb i j))) w) := by
  refine g_Ct.of (by decide +kernel) (lb rfl) ?_
  refine w_aload_n dJ0_charAt_5068e_0 rfl ?_
  refine y_callV dJ0_charAt_5068e_1 lk_J0_492 [] rfl (c_S_isLatin1 E l w hi) (g_recv.str hi) rfl ⟨⟨by decide, by decide⟩, by decide, by decide⟩ (lb rfl) ?_
  refine w_if_eq (tgt := 16) dJ0_charAt_5068e_4 (by decide) (fun c_4 => absurd c_4 ((show ¬ (1 : Int32) = 0 from by decide))) (fun c_4 => ?_)
  refine w_aload_n dJ0_charAt_5068e_7 rfl ?_
  refine w_getSv dJ0_charAt_5068e_8 fe_java_lang_String_9 hi ?_
  refine w_iload_n dJ0_charAt_5068e_11 rfl ?_
  refine y_callS dJ0_charAt_5068e_12 lk_J0_495 [.ref (1101 + i), .int (nI j)] rfl (c_L1_charAt E l w hi hj) rfl ⟨⟨by decide, by decide⟩, by decide, by decide⟩ (lb rfl) ?_
  refine w_iret dJ0_charAt_5068e_15 rfl (wb_c9 i hi j hj).2 ⟨rfl, rfl⟩ (by decide) (by decide)
end ST
