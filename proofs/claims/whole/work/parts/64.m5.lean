/-! HeapGamesModel.allows, amountsAt -/
section M6
variable (E : GE) (l : Launch)
variable {I : Nat → Nat → Int32} {J : Nat → Nat → Int64} {R : Nat → Nat → Option Nat} {D : Nat → Nat → UInt64} {N : Nat} {ex : Bool}
set_option maxRecDepth 100000 in
theorem m_allows (hR : lkM R N) {r k : Nat} {al : List Nat} (hr : r < 6) (hm : mrC I r k al) {n : Nat} (hn : n ≤ 300) (x : Int32) : g_Ct E l mX7_allows 1 23 0 0 [.ref 79, .int (nI r), .int (nI n), .int x] (I, J, R, D, N, ex) (g_is (some (.int (b2i (okI k (alS al) n x)))) (I, J, R, D, N, ex)) := by
  refine g_Ct.of (by decide +kernel) (lb rfl) ?_
  have hN := hR.1
  have hk := hm.1
  have hk4 := hm.2.1
  by_cases hw : ¬ x < 1 ∧ ¬ nI n < x
  · obtain ⟨a, a1, a2, rfl⟩ := i_1m (m := n) (by omega) hw.1 hw.2
    rw [okI_nI a1 (by omega), okA_eq a1 a2]
    refine w_iload_n dX7_allows_0 rfl ?_
    refine w_iconst (v := 1) dX7_allows_1 (by decide) ?_
    refine w_iload_n dX7_allows_2 rfl ?_
    refine y_callS dX7_allows_3 lk_X7_77 [.int (nI a), .int 1, .int (nI n)] rfl (m_within E l _ _ _ _) rfl ⟨⟨by decide, by decide⟩, by decide, by decide⟩ (lb rfl) ?_
    rw [decide_eq_true hw]
    refine w_if_ne (tgt := 11) dX7_allows_6 (by decide) (fun c_6 => ?_) (fun c_6 => absurd c_6 ((by decide)))
    refine w_aload_n dX7_allows_11 rfl ?_
    refine x_getr (ci := 7) (k := 6) (a := 85) dX7_allows_12 rfl (by decide) (by decide) (by omega) fl_X7_26 (Or.inr ⟨_, rfl⟩) hR.2.2.2.2.2.2.1 ?_
    refine w_iload_n dX7_allows_15 rfl ?_
    refine x_iald (j := r) dX7_allows_16 rfl (by omega) rfl (show r < 6 from hr) ?_
    rw [hk]
    rcases (show k = 0 ∨ k = 1 ∨ k = 2 ∨ k = 3 ∨ k = 4 by omega) with rfl | rfl | rfl | rfl | rfl
    · refine w_tblIn (off := 31) (tgt := 48) dX7_allows_17 (by decide) (by decide) (by decide) (by decide) ?_
      refine w_aload_n dX7_allows_48 rfl ?_
      refine w_iload_n dX7_allows_49 rfl ?_
      refine w_iload_n dX7_allows_50 rfl ?_
      refine y_callV dX7_allows_51 lk_X7_81 [.int (nI r), .int (nI a)] rfl (m_isOfSet E l hR hr hm (by omega)) (g_recv.obj (ci := 7) rfl (by decide) (show 79 < N by omega)) rfl ⟨⟨by decide, by decide⟩, by decide, by decide⟩ (lb rfl) ?_
      refine w_iret dX7_allows_54 rfl (nz_b _) ⟨rfl, rfl⟩ (by decide) (by decide)
    · refine w_tblIn (off := 38) (tgt := 55) dX7_allows_17 (by decide) (by decide) (by decide) (by decide) ?_
      refine w_iload_n dX7_allows_55 rfl ?_
      refine w_iload_n dX7_allows_56 rfl ?_
      refine w_icmp_ge (tgt := 70) dX7_allows_57 (by decide) (fun c_57 => ?_) (fun c_57 => ?_)
      · refine w_iconst (v := 0) dX7_allows_70 (by decide) ?_
        refine w_iret dX7_allows_71 rfl (by rfl) ⟨by first | exact rt_f (decide_eq_false (by have := n_le c_57; omega)) | exact rt_f (decide_eq_false (fun q => c_63 (by rw [q.2]; rfl))) | exact rt_t (decide_eq_true ⟨n_nle c_57, n_eq (b := 0) c_63 (by have := Nat.mod_lt n (show 0 < a by omega); omega)⟩), rfl⟩ (by decide) (by decide)
      · refine w_iload_n dX7_allows_60 rfl ?_
        refine w_iload_n dX7_allows_61 rfl ?_
        refine w_irem dX7_allows_62 (nI_ne0 (by omega) (by omega)) ?_
        refine w_st (show _ = [.int (nI (n % a))] from by rw [pk_rem (by omega) (by omega) (by omega)]) ?_
        refine w_if_ne (tgt := 70) dX7_allows_63 (by decide) (fun c_63 => ?_) (fun c_63 => ?_)
        · refine w_iconst (v := 0) dX7_allows_70 (by decide) ?_
          refine w_iret dX7_allows_71 rfl (by rfl) ⟨by first | exact rt_f (decide_eq_false (by have := n_le c_57; omega)) | exact rt_f (decide_eq_false (fun q => c_63 (by rw [q.2]; rfl))) | exact rt_t (decide_eq_true ⟨n_nle c_57, n_eq (b := 0) c_63 (by have := Nat.mod_lt n (show 0 < a by omega); omega)⟩), rfl⟩ (by decide) (by decide)
        · refine w_iconst (v := 1) dX7_allows_66 (by decide) ?_
          refine w_goto (tgt := 71) dX7_allows_67 (by decide) ?_
          refine w_iret dX7_allows_71 rfl (by rfl) ⟨by first | exact rt_f (decide_eq_false (by have := n_le c_57; omega)) | exact rt_f (decide_eq_false (fun q => c_63 (by rw [q.2]; rfl))) | exact rt_t (decide_eq_true ⟨n_nle c_57, n_eq (b := 0) c_63 (by have := Nat.mod_lt n (show 0 < a by omega); omega)⟩), rfl⟩ (by decide) (by decide)
    · refine w_tblIn (off := 55) (tgt := 72) dX7_allows_17 (by decide) (by decide) (by decide) (by decide) ?_
      refine w_iload_n dX7_allows_72 rfl ?_
      refine w_iload_n dX7_allows_73 rfl ?_
      refine w_iconst (v := 2) dX7_allows_74 (by decide) ?_
      refine w_idiv dX7_allows_75 (by decide) ?_
      refine w_st (show _ = [.int (nI (n / 2)), .int (nI a)] from by rw [← pk_div (d := 2) (by omega) (by omega) (by omega)]; rfl) ?_
      refine w_icmp_gt (tgt := 83) dX7_allows_76 (by decide) (fun c_76 => ?_) (fun c_76 => ?_)
      · refine w_iconst (v := 0) dX7_allows_83 (by decide) ?_
        refine w_iret dX7_allows_84 rfl (by rfl) ⟨by first | exact rt_f (decide_eq_false (by have := n_lt c_76; omega)) | exact rt_t (decide_eq_true (n_nlt c_76)), rfl⟩ (by decide) (by decide)
      · refine w_iconst (v := 1) dX7_allows_79 (by decide) ?_
        refine w_goto (tgt := 84) dX7_allows_80 (by decide) ?_
        refine w_iret dX7_allows_84 rfl (by rfl) ⟨by first | exact rt_f (decide_eq_false (by have := n_lt c_76; omega)) | exact rt_t (decide_eq_true (n_nlt c_76)), rfl⟩ (by decide) (by decide)
    · refine w_tblIn (off := 68) (tgt := 85) dX7_allows_17 (by decide) (by decide) (by decide) (by decide) ?_
      refine w_iload_n dX7_allows_85 rfl ?_
      refine y_callS dX7_allows_86 lk_X7_85 [.int (nI a)] rfl (m_isPower E l _ _) rfl ⟨⟨by decide, by decide⟩, by decide, by decide⟩ (lb rfl) ?_
      refine w_iret dX7_allows_89 rfl (nz_b _) ⟨rfl, rfl⟩ (by decide) (by decide)
    · refine w_tblOut (tgt := 90) dX7_allows_17 (by decide) (by decide) ?_
      refine w_iload_n dX7_allows_90 rfl ?_
      refine y_callS dX7_allows_91 lk_X7_89 [.int (nI a)] rfl (m_isSquare E l _ a1 (by omega)) rfl ⟨⟨by decide, by decide⟩, by decide, by decide⟩ (lb rfl) ?_
      refine w_iret dX7_allows_94 rfl (nz_b _) ⟨rfl, rfl⟩ (by decide) (by decide)
  · have hf : okI k (alS al) n x = false := by
      by_cases h1 : x < 1
      · exact okI_lo h1
      · exact okI_hi (by omega) (fun q => hw ⟨h1, by rw [Int32.lt_iff_toInt_lt]; rw [Int32.le_iff_toInt_le] at q; omega⟩)
    rw [hf]
    refine w_iload_n dX7_allows_0 rfl ?_
    refine w_iconst (v := 1) dX7_allows_1 (by decide) ?_
    refine w_iload_n dX7_allows_2 rfl ?_
    refine y_callS dX7_allows_3 lk_X7_77 [.int x, .int 1, .int (nI n)] rfl (m_within E l _ _ _ _) rfl ⟨⟨by decide, by decide⟩, by decide, by decide⟩ (lb rfl) ?_
    rw [decide_eq_false hw]
    refine w_if_ne (tgt := 11) dX7_allows_6 (by decide) (fun c_6 => absurd (rfl) c_6) (fun c_6 => ?_)
    refine w_iconst (v := 0) dX7_allows_9 (by decide) ?_
    refine w_iret dX7_allows_10 rfl rfl ⟨rfl, rfl⟩ (by decide) (by decide)
set_option maxRecDepth 100000 in
theorem m_amountsAt (hR : lkM R N) {r k : Nat} {al : List Nat} (hr : r < 6) (hm : mrC I r k al) {n : Nat} (hn : n ≤ 300) : g_Ct E l mX7_amountsAt 2 46 0 0 [.ref 79, .int (nI r), .int (nI n)] (I, J, R, D, N, ex) (g_is (some (.int (nI (cntA (okA k (alS al) n) n)))) (I, J, R, D, N, ex)) := by
  refine g_Ct.of (by decide +kernel) (lb rfl) ?_
  have hN := hR.1
  have loop : ∀ f a : Nat, a + f = n → g_Wp E l mX7_amountsAt { frames := 2, cells := 0, slots := 0, locals := 46 } (g_Fin E (g_is (some (.int (nI (cntA (okA k (alS al) n) n)))) (I, J, R, D, N, ex)) 0 0) 0 0 5 [(4, .int (nI (a + 1))), (3, .int (nI (cntA (okA k (alS al) n) a))), (0, .ref 79), (1, .int (nI r)), (2, .int (nI n))] [] (I, J, R, D, N, ex) := by
    intro f
    induction f with
    | zero =>
      intro a ha
      obtain rfl : a = n := by omega
      refine w_iload dX7_amountsAt_5 rfl ?_
      refine w_iload_n dX7_amountsAt_7 rfl ?_
      refine w_icmp_gt (tgt := 36) dX7_amountsAt_8 (by decide) (fun c_8 => ?_) (fun c_8 => absurd ((nI_lt (by omega) (by omega))) c_8)
      refine w_iload_n dX7_amountsAt_36 rfl ?_
      refine w_iret dX7_amountsAt_37 rfl rfl ⟨rfl, rfl⟩ (by decide) (by decide)
    | succ f ih =>
      intro a ha
      refine w_iload dX7_amountsAt_5 rfl ?_
      refine w_iload_n dX7_amountsAt_7 rfl ?_
      refine w_icmp_gt (tgt := 36) dX7_amountsAt_8 (by decide) (fun c_8 => absurd c_8 ((nI_nlt (by omega) (by omega)))) (fun c_8 => ?_)
      refine w_iload_n dX7_amountsAt_11 rfl ?_
      refine w_aload_n dX7_amountsAt_12 rfl ?_
      refine w_iload_n dX7_amountsAt_13 rfl ?_
      refine w_iload_n dX7_amountsAt_14 rfl ?_
      refine w_iload dX7_amountsAt_15 rfl ?_
      refine y_callV dX7_amountsAt_17 lk_X7_92 [.int (nI r), .int (nI n), .int (nI (a + 1))] rfl (m_allows E l hR hr hm hn _) (g_recv.obj (ci := 7) rfl (by decide) (show 79 < N by omega)) rfl ⟨⟨by decide, by decide⟩, by decide, by decide⟩ (lb rfl) ?_
      rw [okI_nI (by omega) (by omega)]
      refine w_if_eq (tgt := 27) dX7_amountsAt_20 (by decide) (fun c_20 => ?_) (fun c_20 => ?_)
      · refine w_iconst (v := 0) dX7_amountsAt_27 (by decide) ?_
        refine w_iadd dX7_amountsAt_28 ?_
        refine w_istore_n dX7_amountsAt_29 (by decide) rfl ?_
        refine w_iinc (v := nI (a + 1 + 1)) dX7_amountsAt_30 rfl (nI_inc _) (by decide) rfl ?_
        refine w_goto (tgt := 5) dX7_amountsAt_33 (by decide) ?_
        first | (have t := ih (a + 1) (by omega); rw [cntA_f (b2i_0.mp c_20)] at t; exact w_lv [4, 3, 0, 1, 2] t) | (have t := ih (a + 1) (by omega); rw [cntA_t (b2i_ne.mp c_20)] at t; rw [show nI (cntA (okA k (alS al) n) a) + 1 = nI (cntA (okA k (alS al) n) a + 1) from nI_1 _]; exact w_lv [4, 3, 0, 1, 2] t) | (have t := ih (a + 1) (by omega); rw [cntA_f (b2i_0.mp c_20)] at t; rw [show nI (cntA (okA k (alS al) n) a) + 0 = nI (cntA (okA k (alS al) n) a) from nI_add _ 0]; exact w_lv [4, 3, 0, 1, 2] t)
      · refine w_iconst (v := 1) dX7_amountsAt_23 (by decide) ?_
        refine w_goto (tgt := 28) dX7_amountsAt_24 (by decide) ?_
        refine w_iadd dX7_amountsAt_28 ?_
        refine w_istore_n dX7_amountsAt_29 (by decide) rfl ?_
        refine w_iinc (v := nI (a + 1 + 1)) dX7_amountsAt_30 rfl (nI_inc _) (by decide) rfl ?_
        refine w_goto (tgt := 5) dX7_amountsAt_33 (by decide) ?_
        first | (have t := ih (a + 1) (by omega); rw [cntA_f (b2i_0.mp c_20)] at t; exact w_lv [4, 3, 0, 1, 2] t) | (have t := ih (a + 1) (by omega); rw [cntA_t (b2i_ne.mp c_20)] at t; rw [show nI (cntA (okA k (alS al) n) a) + 1 = nI (cntA (okA k (alS al) n) a + 1) from nI_1 _]; exact w_lv [4, 3, 0, 1, 2] t) | (have t := ih (a + 1) (by omega); rw [cntA_f (b2i_0.mp c_20)] at t; rw [show nI (cntA (okA k (alS al) n) a) + 0 = nI (cntA (okA k (alS al) n) a) from nI_add _ 0]; exact w_lv [4, 3, 0, 1, 2] t)
  refine w_iconst (v := 0) dX7_amountsAt_0 (by decide) ?_
  refine w_istore_n dX7_amountsAt_1 (by decide) rfl ?_
  refine w_iconst (v := 1) dX7_amountsAt_2 (by decide) ?_
  refine w_istore dX7_amountsAt_3 (by decide) rfl ?_
  exact w_lv [4, 3, 0, 1, 2] (loop n 0 (by omega))
end M6
