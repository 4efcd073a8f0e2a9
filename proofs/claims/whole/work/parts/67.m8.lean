/-! HeapGamesModel.startOf -/
section M9
variable (E : GE) (l : Launch)
variable {I : Nat → Nat → Int32} {J : Nat → Nat → Int64} {R : Nat → Nat → Option Nat} {D : Nat → Nat → UInt64} {N : Nat} {ex : Bool}
def stF (f : Nat → Int32) (u : Nat) : Int32 := match perOf f u with
  | none => -1
  | some t => nI (stOf f t u)
set_option maxRecDepth 100000 in
theorem m_startOf (hR : lkM R N) {r : Nat} (hr : r < 6) {f : Nat → Int32} (hf : ∀ i, i < 301 → I 91 (301 * r + i) = f i) {u : Nat} (hu : u < 301) : g_Ct E l mX7_startOf 3 70 0 0 [.ref 79, .int (nI r), .int (nI u)] (I, J, R, D, N, ex) (g_is (some (.int (stF f u))) (I, J, R, D, N, ex)) := by
  refine g_Ct.of (by decide +kernel) (lb rfl) ?_
  have hN := hR.1
  cases hp : perOf f u with
  | none =>
    refine w_aload_n dX7_startOf_0 rfl ?_
    refine w_iload_n dX7_startOf_1 rfl ?_
    refine w_iload_n dX7_startOf_2 rfl ?_
    refine y_callV dX7_startOf_3 lk_X7_113 [.int (nI r), .int (nI u)] rfl (m_periodOf E l hR hr hf hu) (g_recv.obj (ci := 7) rfl (by decide) (show 79 < N by omega)) rfl ⟨⟨by decide, by decide⟩, by decide, by decide⟩ (lb rfl) ?_
    rw [hp]
    refine w_istore_n dX7_startOf_6 (by decide) rfl ?_
    refine w_iload_n dX7_startOf_7 rfl ?_
    refine w_iconst (v := (-1)) dX7_startOf_8 (by decide) ?_
    refine w_icmp_ne (tgt := 14) dX7_startOf_9 (by decide) (fun c_9 => absurd (rfl) c_9) (fun c_9 => ?_)
    refine w_iconst (v := (-1)) dX7_startOf_12 (by decide) ?_
    refine w_iret dX7_startOf_13 rfl rfl ⟨rt_i (by unfold stF; rw [hp]), rfl⟩ (by decide) (by decide)
  | some t =>
    have hts := perOf_some hp
    have hle : stOf f t u ≤ u + 1 - t := downL_le _ _
    have hne : ¬ o2i (some t) = -1 := by
      intro z
      have := o2i_none z (fun t ht => by cases ht; omega)
      cases this
    have loop : ∀ g s : Nat, s + g = stOf f t u → g_Wp E l mX7_startOf { frames := 3, cells := 0, slots := 0, locals := 70 } (g_Fin E (g_is (some (.int (stF f u))) (I, J, R, D, N, ex)) 0 0) 0 0 17 [(4, .int (nI s)), (3, .int (nI t)), (0, .ref 79), (1, .int (nI r)), (2, .int (nI u))] [] (I, J, R, D, N, ex) := by
      intro g
      induction g with
      | zero =>
        intro s hs
        refine w_aload_n dX7_startOf_17 rfl ?_
        refine w_iload_n dX7_startOf_18 rfl ?_
        refine w_iload_n dX7_startOf_19 rfl ?_
        refine w_iload dX7_startOf_20 rfl ?_
        refine w_iload_n dX7_startOf_22 rfl ?_
        refine y_callV dX7_startOf_23 lk_X7_109 [.int (nI r), .int (nI t), .int (nI s), .int (nI u)] rfl (m_goesOn E l hR hr hf (show t ≤ u + 1 by omega) (show s ≤ u + 1 - t by omega) hu) (g_recv.obj (ci := 7) rfl (by decide) (show 79 < N by omega)) rfl ⟨⟨by decide, by decide⟩, by decide, by decide⟩ (lb rfl) ?_
        rw [decide_eq_true (show stOf f t u ≤ s by omega)]
        refine w_if_ne (tgt := 35) dX7_startOf_26 (by decide) (fun c_26 => ?_) (fun c_26 => absurd c_26 ((by decide)))
        refine w_iload dX7_startOf_35 rfl ?_
        refine w_iret dX7_startOf_37 rfl rfl ⟨rt_i (by unfold stF; rw [hp]; show nI s = nI (stOf f t u); rw [show s = stOf f t u by omega]), rfl⟩ (by decide) (by decide)
      | succ g ih =>
        intro s hs
        refine w_aload_n dX7_startOf_17 rfl ?_
        refine w_iload_n dX7_startOf_18 rfl ?_
        refine w_iload_n dX7_startOf_19 rfl ?_
        refine w_iload dX7_startOf_20 rfl ?_
        refine w_iload_n dX7_startOf_22 rfl ?_
        refine y_callV dX7_startOf_23 lk_X7_109 [.int (nI r), .int (nI t), .int (nI s), .int (nI u)] rfl (m_goesOn E l hR hr hf (show t ≤ u + 1 by omega) (show s ≤ u + 1 - t by omega) hu) (g_recv.obj (ci := 7) rfl (by decide) (show 79 < N by omega)) rfl ⟨⟨by decide, by decide⟩, by decide, by decide⟩ (lb rfl) ?_
        rw [decide_eq_false (show ¬ stOf f t u ≤ s by omega)]
        refine w_if_ne (tgt := 35) dX7_startOf_26 (by decide) (fun c_26 => absurd (rfl) c_26) (fun c_26 => ?_)
        refine w_iinc (v := nI (s + 1)) dX7_startOf_29 rfl (nI_inc _) (by decide) rfl ?_
        refine w_goto (tgt := 17) dX7_startOf_32 (by decide) ?_
        exact w_lv [4, 3, 0, 1, 2] (ih (s + 1) (by omega))
    refine w_aload_n dX7_startOf_0 rfl ?_
    refine w_iload_n dX7_startOf_1 rfl ?_
    refine w_iload_n dX7_startOf_2 rfl ?_
    refine y_callV dX7_startOf_3 lk_X7_113 [.int (nI r), .int (nI u)] rfl (m_periodOf E l hR hr hf hu) (g_recv.obj (ci := 7) rfl (by decide) (show 79 < N by omega)) rfl ⟨⟨by decide, by decide⟩, by decide, by decide⟩ (lb rfl) ?_
    rw [hp]
    refine w_istore_n dX7_startOf_6 (by decide) rfl ?_
    refine w_iload_n dX7_startOf_7 rfl ?_
    refine w_iconst (v := (-1)) dX7_startOf_8 (by decide) ?_
    refine w_icmp_ne (tgt := 14) dX7_startOf_9 (by decide) (fun c_9 => ?_) (fun c_9 => absurd c_9 (hne))
    refine w_iconst (v := 0) dX7_startOf_14 (by decide) ?_
    refine w_istore dX7_startOf_15 (by decide) rfl ?_
    exact w_lv [4, 3, 0, 1, 2] (loop (stOf f t u) 0 (by omega))
end M9
