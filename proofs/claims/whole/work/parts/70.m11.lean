/-! HeapGamesModel.mayUpTo, on -/
section MC
variable (E : GE) (l : Launch)
variable {I : Nat → Nat → Int32} {J : Nat → Nat → Int64} {R : Nat → Nat → Option Nat} {D : Nat → Nat → UInt64} {N : Nat} {ex : Bool}
set_option maxRecDepth 100000 in
theorem m_mayUpTo_f1 (hN : 79 < N) (h0 : I 79 17 = 0) {nr : Nat} {x : Int32} (hr : I 79 15 = nI nr) (h6 : nr ≤ 6) (hx : x < 0 ∨ ¬ x < nI nr) (z : Int32) : g_Ct E l mX7_mayUpTo 2 43 0 0 [.ref 79, .int x, .int z] (I, J, R, D, N, ex) (g_is (some (.int (b2i false))) (up2 I 79 17 1, J, R, D, N, ex)) := by
  refine g_Ct.of (by decide +kernel) (lb rfl) ?_
  refine w_aload_n dX7_mayUpTo_0 rfl ?_
  refine w_iload_n dX7_mayUpTo_1 rfl ?_
  refine y_callV dX7_mayUpTo_2 lk_X7_366 [.int x] rfl (m_mayRule_f E l hN h0 hr h6 hx) (g_recv.obj (ci := 7) rfl (by decide) hN) rfl ⟨⟨by decide, by decide⟩, by decide, by decide⟩ (lb rfl) ?_
  refine w_if_eq (tgt := 28) dX7_mayUpTo_5 (by decide) (fun c_5 => ?_) (fun c_5 => absurd (rfl) c_5)
  refine w_iconst (v := 0) dX7_mayUpTo_28 (by decide) ?_
  refine w_iret dX7_mayUpTo_29 rfl rfl ⟨rfl, rfl⟩ (by decide) (by decide)
set_option maxRecDepth 100000 in
theorem m_mayUpTo_f2 (hN : 79 < N) (h0 : I 79 17 = 0) {nr k : Nat} {z : Int32} (hr : I 79 15 = nI nr) (h6 : nr ≤ 6) (hk : k < nr) (hz : z < 0 ∨ ¬ z < nI 301) : g_Ct E l mX7_mayUpTo 2 43 0 0 [.ref 79, .int (nI k), .int z] (I, J, R, D, N, ex) (g_is (some (.int (b2i false))) (up2 I 79 17 2, J, R, D, N, ex)) := by
  refine g_Ct.of (by decide +kernel) (lb rfl) ?_
  refine w_aload_n dX7_mayUpTo_0 rfl ?_
  refine w_iload_n dX7_mayUpTo_1 rfl ?_
  refine y_callV dX7_mayUpTo_2 lk_X7_366 [.int (nI k)] rfl (m_mayRule_t E l hN h0 hr h6 hk) (g_recv.obj (ci := 7) rfl (by decide) hN) rfl ⟨⟨by decide, by decide⟩, by decide, by decide⟩ (lb rfl) ?_
  refine w_if_eq (tgt := 28) dX7_mayUpTo_5 (by decide) (fun c_5 => absurd c_5 ((by decide))) (fun c_5 => ?_)
  refine w_aload_n dX7_mayUpTo_8 rfl ?_
  refine w_iload_n dX7_mayUpTo_9 rfl ?_
  refine w_iconst (v := 0) dX7_mayUpTo_10 (by decide) ?_
  refine w_sipush (v := 300) dX7_mayUpTo_11 (by decide) ?_
  refine y_callS dX7_mayUpTo_14 lk_X7_77 [.int z, .int 0, .int 300] rfl (m_within E l _ _ _ _) rfl ⟨⟨by decide, by decide⟩, by decide, by decide⟩ (lb rfl) ?_
  rw [decide_eq_false (show ¬ (¬ z < 0 ∧ ¬ (300 : Int32) < z) from wi_f (n := 301) (by omega) hz)]
  refine w_iconst (v := 2) dX7_mayUpTo_17 (by decide) ?_
  refine y_callV dX7_mayUpTo_18 lk_X7_256 [.int 0, .int 2] rfl (m_may_f E l hN h0 (by decide)) (g_recv.obj (ci := 7) rfl (by decide) hN) rfl ⟨⟨by decide, by decide⟩, by decide, by decide⟩ (lb rfl) ?_
  refine w_if_eq (tgt := 28) dX7_mayUpTo_21 (by decide) (fun c_21 => ?_) (fun c_21 => absurd (rfl) c_21)
  refine w_iconst (v := 0) dX7_mayUpTo_28 (by decide) ?_
  refine w_iret dX7_mayUpTo_29 rfl rfl ⟨rfl, rfl⟩ (by decide) (by decide)
end MC
