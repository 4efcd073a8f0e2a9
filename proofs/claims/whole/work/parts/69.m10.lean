/-! HeapGamesModel.mayRule, mayUpTo, on -/
section MB
variable (E : GE) (l : Launch)
variable {I : Nat → Nat → Int32} {J : Nat → Nat → Int64} {R : Nat → Nat → Option Nat} {D : Nat → Nat → UInt64} {N : Nat} {ex : Bool}
set_option maxRecDepth 100000 in
theorem m_mayRule_f (hN : 79 < N) (h0 : I 79 17 = 0) {nr : Nat} {x : Int32} (hr : I 79 15 = nI nr) (h6 : nr ≤ 6) (hx : x < 0 ∨ ¬ x < nI nr) : g_Ct E l mX7_mayRule 1 22 0 0 [.ref 79, .int x] (I, J, R, D, N, ex) (g_is (some (.int (b2i false))) (up2 I 79 17 1, J, R, D, N, ex)) := by
  refine g_Ct.of (by decide +kernel) (lb rfl) ?_
  refine w_aload_n dX7_mayRule_0 rfl ?_
  refine w_iload_n dX7_mayRule_1 rfl ?_
  refine w_iconst (v := 0) dX7_mayRule_2 (by decide) ?_
  refine w_aload_n dX7_mayRule_3 rfl ?_
  refine x_geti (ci := 7) (k := 15) dX7_mayRule_4 rfl (by decide) (by decide) hN fl_X7_98 rfl ?_
  rw [hr]
  refine w_iconst (v := 1) dX7_mayRule_7 (by decide) ?_
  refine w_isub dX7_mayRule_8 ?_
  refine y_callS dX7_mayRule_9 lk_X7_77 [.int x, .int 0, .int (nI nr - 1)] rfl (m_within E l _ _ _ _) rfl ⟨⟨by decide, by decide⟩, by decide, by decide⟩ (lb rfl) ?_
  rw [decide_eq_false (wi_f (by omega) hx)]
  refine w_iconst (v := 1) dX7_mayRule_12 (by decide) ?_
  refine y_callV dX7_mayRule_13 lk_X7_256 [.int 0, .int 1] rfl (m_may_f E l hN h0 (by decide)) (g_recv.obj (ci := 7) rfl (by decide) hN) rfl ⟨⟨by decide, by decide⟩, by decide, by decide⟩ (lb rfl) ?_
  refine w_iret dX7_mayRule_16 rfl rfl ⟨rfl, rfl⟩ (by decide) (by decide)
set_option maxRecDepth 100000 in
theorem m_mayUpTo_t (hN : 79 < N) (h0 : I 79 17 = 0) {nr k m : Nat} (hr : I 79 15 = nI nr) (h6 : nr ≤ 6) (hk : k < nr) (hm : m < 301) : g_Ct E l mX7_mayUpTo 2 43 0 0 [.ref 79, .int (nI k), .int (nI m)] (I, J, R, D, N, ex) (g_is (some (.int (b2i true))) (I, J, R, D, N, ex)) := by
  refine g_Ct.of (by decide +kernel) (lb rfl) ?_
  refine w_aload_n dX7_mayUpTo_0 rfl ?_
  refine w_iload_n dX7_mayUpTo_1 rfl ?_
  refine y_callV dX7_mayUpTo_2 lk_X7_366 [.int (nI k)] rfl (m_mayRule_t E l hN h0 hr h6 hk) (g_recv.obj (ci := 7) rfl (by decide) hN) rfl ⟨⟨by decide, by decide⟩, by decide, by decide⟩ (lb rfl) ?_
  refine w_if_eq (tgt := 28) dX7_mayUpTo_5 (by decide) (fun c_5 => absurd c_5 ((by decide))) (fun c_5 => ?_)
  refine w_aload_n dX7_mayUpTo_8 rfl ?_
  refine w_iload_n dX7_mayUpTo_9 rfl ?_
  refine w_iconst (v := 0) dX7_mayUpTo_10 (by decide) ?_
  refine w_sipush (v := 300) dX7_mayUpTo_11 (by decide) ?_
  refine y_callS dX7_mayUpTo_14 lk_X7_77 [.int (nI m), .int 0, .int 300] rfl (m_within E l _ _ _ _) rfl ⟨⟨by decide, by decide⟩, by decide, by decide⟩ (lb rfl) ?_
  rw [decide_eq_true (show ¬ nI m < 0 ∧ ¬ (300 : Int32) < nI m from wi_t (n := 301) hm (by omega))]
  refine w_iconst (v := 2) dX7_mayUpTo_17 (by decide) ?_
  refine y_callV dX7_mayUpTo_18 lk_X7_256 [.int 1, .int 2] rfl (m_may_t E l hN h0 2) (g_recv.obj (ci := 7) rfl (by decide) hN) rfl ⟨⟨by decide, by decide⟩, by decide, by decide⟩ (lb rfl) ?_
  refine w_if_eq (tgt := 28) dX7_mayUpTo_21 (by decide) (fun c_21 => absurd c_21 ((by decide))) (fun c_21 => ?_)
  refine w_iconst (v := 1) dX7_mayUpTo_24 (by decide) ?_
  refine w_goto (tgt := 29) dX7_mayUpTo_25 (by decide) ?_
  refine w_iret dX7_mayUpTo_29 rfl rfl ⟨rfl, rfl⟩ (by decide) (by decide)
end MB
