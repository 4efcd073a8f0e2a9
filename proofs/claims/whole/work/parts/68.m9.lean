/-! HeapGamesModel.mayRule, mayUpTo -/
section MA
variable (E : GE) (l : Launch)
variable {I : Nat → Nat → Int32} {J : Nat → Nat → Int64} {R : Nat → Nat → Option Nat} {D : Nat → Nat → UInt64} {N : Nat} {ex : Bool}
theorem wi_t {k n : Nat} (hk : k < n) (hn : n < 1000) : (¬ nI k < 0 ∧ ¬ nI n - 1 < nI k) := by
  refine ⟨nI_pos (by omega), ?_⟩
  obtain ⟨m, rfl⟩ : ∃ m, n = m + 1 := ⟨n - 1, by omega⟩
  rw [nI_pred]
  exact nI_nlt (by omega) (by omega)
theorem wi_f {x : Int32} {n : Nat} (hn : n < 1000) (hx : x < 0 ∨ ¬ x < nI n) : ¬ (¬ x < 0 ∧ ¬ nI n - 1 < x) := by
  rintro ⟨h1, h2⟩
  rcases hx with y | y
  · exact h1 y
  · rw [Int32.lt_iff_toInt_lt, nI_toInt (by omega)] at y
    rw [Int32.lt_iff_toInt_lt] at h1 h2
    have e0 : (0 : Int32).toInt = 0 := rfl
    rw [e0] at h1
    have e1 : (nI n - 1).toInt = (n : Int) - 1 := by
      cases n with
      | zero => rfl
      | succ m => rw [nI_pred, nI_toInt (by omega)]; omega
    rw [e1] at h2
    omega
set_option maxRecDepth 100000 in
theorem m_mayRule_t (hN : 79 < N) (h0 : I 79 17 = 0) {nr k : Nat} (hr : I 79 15 = nI nr) (h6 : nr ≤ 6) (hk : k < nr) : g_Ct E l mX7_mayRule 1 22 0 0 [.ref 79, .int (nI k)] (I, J, R, D, N, ex) (g_is (some (.int (b2i true))) (I, J, R, D, N, ex)) := by
  refine g_Ct.of (by decide +kernel) (lb rfl) ?_
  refine w_aload_n dX7_mayRule_0 rfl ?_
  refine w_iload_n dX7_mayRule_1 rfl ?_
  refine w_iconst (v := 0) dX7_mayRule_2 (by decide) ?_
  refine w_aload_n dX7_mayRule_3 rfl ?_
  refine x_geti (ci := 7) (k := 15) dX7_mayRule_4 rfl (by decide) (by decide) hN fl_X7_98 rfl ?_
  rw [hr]
  refine w_iconst (v := 1) dX7_mayRule_7 (by decide) ?_
  refine w_isub dX7_mayRule_8 ?_
  refine y_callS dX7_mayRule_9 lk_X7_77 [.int (nI k), .int 0, .int (nI nr - 1)] rfl (m_within E l _ _ _ _) rfl ⟨⟨by decide, by decide⟩, by decide, by decide⟩ (lb rfl) ?_
  rw [decide_eq_true (wi_t hk (by omega))]
  refine w_iconst (v := 1) dX7_mayRule_12 (by decide) ?_
  refine y_callV dX7_mayRule_13 lk_X7_256 [.int 1, .int 1] rfl (m_may_t E l hN h0 1) (g_recv.obj (ci := 7) rfl (by decide) hN) rfl ⟨⟨by decide, by decide⟩, by decide, by decide⟩ (lb rfl) ?_
  refine w_iret dX7_mayRule_16 rfl rfl ⟨rfl, rfl⟩ (by decide) (by decide)
end MA
