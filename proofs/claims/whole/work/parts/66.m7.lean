/-! HeapGamesModel.periodOf, startOf -/
section M8
variable (E : GE) (l : Launch)
variable {I : Nat → Nat → Int32} {J : Nat → Nat → Int64} {R : Nat → Nat → Option Nat} {D : Nat → Nat → UInt64} {N : Nat} {ex : Bool}
set_option maxRecDepth 100000 in
theorem m_periodOf (hR : lkM R N) {r : Nat} (hr : r < 6) {f : Nat → Int32} (hf : ∀ i, i < 301 → I 91 (301 * r + i) = f i) {u : Nat} (hu : u < 301) : g_Ct E l mX7_periodOf 2 47 0 0 [.ref 79, .int (nI r), .int (nI u)] (I, J, R, D, N, ex) (g_is (some (.int (o2i (perOf f u)))) (I, J, R, D, N, ex)) := by
  refine g_Ct.of (by decide +kernel) (lb rfl) ?_
  have hN := hR.1
  generalize hQ : perOf f u = Q
  have loop : ∀ g s : Nat, s + g = (u + 1) / 2 + 1 → 1 ≤ s → perF (fun s => decide (stOf f s u + 2 * s ≤ u + 1)) g s = Q → g_Wp E l mX7_periodOf { frames := 2, cells := 0, slots := 0, locals := 47 } (g_Fin E (g_is (some (.int (o2i Q))) (I, J, R, D, N, ex)) 0 0) 0 0 2 [(3, .int (nI s)), (0, .ref 79), (1, .int (nI r)), (2, .int (nI u))] [] (I, J, R, D, N, ex) := by
    intro g
    induction g with
    | zero =>
      intro s hs h1 hq
      refine w_iconst (v := 2) dX7_periodOf_2 (by decide) ?_
      refine w_iload_n dX7_periodOf_3 rfl ?_
      refine w_imul dX7_periodOf_4 ?_
      refine w_st (show _ = [.int (nI (2 * s))] from by rw [← pk_mul]; rfl) ?_
      refine w_iload_n dX7_periodOf_5 rfl ?_
      refine w_iconst (v := 1) dX7_periodOf_6 (by decide) ?_
      refine w_iadd dX7_periodOf_7 ?_
      rw [nI_1]
      refine w_icmp_gt (tgt := 36) dX7_periodOf_8 (by decide) (fun c_8 => ?_) (fun c_8 => absurd ((nI_lt (by omega) (by omega))) c_8)
      refine w_iconst (v := (-1)) dX7_periodOf_36 (by decide) ?_
      refine w_iret dX7_periodOf_37 rfl rfl ⟨rt_i (by rw [← hq]; rfl), rfl⟩ (by decide) (by decide)
    | succ g ih =>
      intro s hs h1 hq
      rw [perF] at hq
      have hle : stOf f s u ≤ u + 1 - s := downL_le _ _
      refine w_iconst (v := 2) dX7_periodOf_2 (by decide) ?_
      refine w_iload_n dX7_periodOf_3 rfl ?_
      refine w_imul dX7_periodOf_4 ?_
      refine w_st (show _ = [.int (nI (2 * s))] from by rw [← pk_mul]; rfl) ?_
      refine w_iload_n dX7_periodOf_5 rfl ?_
      refine w_iconst (v := 1) dX7_periodOf_6 (by decide) ?_
      refine w_iadd dX7_periodOf_7 ?_
      rw [nI_1]
      refine w_icmp_gt (tgt := 36) dX7_periodOf_8 (by decide) (fun c_8 => absurd c_8 ((nI_nlt (by omega) (by omega)))) (fun c_8 => ?_)
      refine w_aload_n dX7_periodOf_11 rfl ?_
      refine w_iload_n dX7_periodOf_12 rfl ?_
      refine w_iload_n dX7_periodOf_13 rfl ?_
      refine w_iload_n dX7_periodOf_14 rfl ?_
      refine w_iconst (v := 1) dX7_periodOf_15 (by decide) ?_
      refine w_iadd dX7_periodOf_16 ?_
      rw [nI_1]
      refine w_iconst (v := 2) dX7_periodOf_17 (by decide) ?_
      refine w_iload_n dX7_periodOf_18 rfl ?_
      refine w_imul dX7_periodOf_19 ?_
      refine w_st (show _ = [.int (nI (2 * s)), .int (nI (u + 1)), .int (nI s), .int (nI r), .ref 79] from by rw [← pk_mul]; rfl) ?_
      refine w_isub dX7_periodOf_20 ?_
      rw [pk_sub (by omega)]
      refine w_iload_n dX7_periodOf_21 rfl ?_
      refine y_callV dX7_periodOf_22 lk_X7_109 [.int (nI r), .int (nI s), .int (nI (u + 1 - 2 * s)), .int (nI u)] rfl (m_goesOn E l hR hr hf (show s ≤ u + 1 by omega) (show u + 1 - 2 * s ≤ u + 1 - s by omega) hu) (g_recv.obj (ci := 7) rfl (by decide) (show 79 < N by omega)) rfl ⟨⟨by decide, by decide⟩, by decide, by decide⟩ (lb rfl) ?_
      refine w_if_eq (tgt := 30) dX7_periodOf_25 (by decide) (fun c_25 => ?_) (fun c_25 => ?_)
      · refine w_iinc (v := nI (s + 1)) dX7_periodOf_30 rfl (nI_inc _) (by decide) rfl ?_
        refine w_goto (tgt := 2) dX7_periodOf_33 (by decide) ?_
        exact w_lv [3, 0, 1, 2] (ih (s + 1) (by omega) (by omega) (by rw [← hq, if_neg (by rw [decide_eq_false (show ¬ stOf f s u + 2 * s ≤ u + 1 by have := of_decide_eq_false (b2i_0.mp c_25); omega)]; decide)]))
      · refine w_iload_n dX7_periodOf_28 rfl ?_
        refine w_iret dX7_periodOf_29 rfl rfl ⟨rt_i (by rw [← hq, if_pos (decide_eq_true (by have := of_decide_eq_true (b2i_ne.mp c_25); omega))]; rfl), rfl⟩ (by decide) (by decide)
  refine w_iconst (v := 1) dX7_periodOf_0 (by decide) ?_
  refine w_istore_n dX7_periodOf_1 (by decide) rfl ?_
  exact w_lv [3, 0, 1, 2] (loop ((u + 1) / 2) 1 (by omega) (by omega) hQ)
end M8
