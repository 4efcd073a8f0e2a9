/-! HeapGamesModel: little functions -/
section M1
variable (E : GE) (l : Launch) (w : GW)
set_option maxRecDepth 100000 in
theorem m_within (v lo hi : Int32) : g_Ct E l mX7_within 0 0 0 0 [.int v, .int lo, .int hi] w (g_is (some (.int (b2i (decide (¬ v < lo ∧ ¬ hi < v))))) w) := by
  refine g_Ct.of (by decide +kernel) (lb rfl) ?_
  refine w_iload_n dX7_within_0 rfl ?_
  refine w_iload_n dX7_within_1 rfl ?_
  refine w_icmp_lt (tgt := 14) dX7_within_2 (by decide) (fun c_2 => ?_) (fun c_2 => ?_)
  · refine w_iconst (v := 0) dX7_within_14 (by decide) ?_
    refine w_iret dX7_within_15 rfl (by rfl) (by first | exact ⟨rt_t (decide_eq_true ⟨c_2, c_7⟩), rfl⟩ | exact ⟨rt_f (decide_eq_false (fun q => q.2 c_7)), rfl⟩ | exact ⟨rt_f (decide_eq_false (fun q => q.1 c_2)), rfl⟩) (by decide) (by decide)
  · refine w_iload_n dX7_within_5 rfl ?_
    refine w_iload_n dX7_within_6 rfl ?_
    refine w_icmp_gt (tgt := 14) dX7_within_7 (by decide) (fun c_7 => ?_) (fun c_7 => ?_)
    · refine w_iconst (v := 0) dX7_within_14 (by decide) ?_
      refine w_iret dX7_within_15 rfl (by rfl) (by first | exact ⟨rt_t (decide_eq_true ⟨c_2, c_7⟩), rfl⟩ | exact ⟨rt_f (decide_eq_false (fun q => q.2 c_7)), rfl⟩ | exact ⟨rt_f (decide_eq_false (fun q => q.1 c_2)), rfl⟩) (by decide) (by decide)
    · refine w_iconst (v := 1) dX7_within_10 (by decide) ?_
      refine w_goto (tgt := 15) dX7_within_11 (by decide) ?_
      refine w_iret dX7_within_15 rfl (by rfl) (by first | exact ⟨rt_t (decide_eq_true ⟨c_2, c_7⟩), rfl⟩ | exact ⟨rt_f (decide_eq_false (fun q => q.2 c_7)), rfl⟩ | exact ⟨rt_f (decide_eq_false (fun q => q.1 c_2)), rfl⟩) (by decide) (by decide)
set_option maxRecDepth 100000 in
theorem m_has {x k : Nat} (hx : x < 2 ^ 31) (hk : k < 31) : g_Ct E l mX7_has 0 0 0 0 [.int (nI x), .int (nI k)] w (g_is (some (.int (b2i (x.testBit k)))) w) := by
  refine g_Ct.of (by decide +kernel) (lb rfl) ?_
  refine w_iload_n dX7_has_0 rfl ?_
  refine w_iload_n dX7_has_1 rfl ?_
  refine w_ishr dX7_has_2 ?_
  refine w_iconst (v := 1) dX7_has_3 (by decide) ?_
  refine w_iand dX7_has_4 ?_
  rw [nI_bit hx hk]
  refine w_iconst (v := 1) dX7_has_5 (by decide) ?_
  refine w_icmp_ne (tgt := 13) dX7_has_6 (by decide) (fun c_6 => ?_) (fun c_6 => ?_)
  · refine w_iconst (v := 0) dX7_has_13 (by decide) ?_
    refine w_iret dX7_has_14 rfl (by rfl) (by first | exact ⟨rt_t (bit_1 (by rw [c_6]; decide)), rfl⟩ | exact ⟨rt_f (by rw [← Bool.not_eq_true]; intro q; apply c_6; have := q; rw [Nat.testBit_eq_decide_div_mod_eq] at this; rw [of_decide_eq_true this]; rfl), rfl⟩) (by decide) (by decide)
  · refine w_iconst (v := 1) dX7_has_9 (by decide) ?_
    refine w_goto (tgt := 14) dX7_has_10 (by decide) ?_
    refine w_iret dX7_has_14 rfl (by rfl) (by first | exact ⟨rt_t (bit_1 (by rw [c_6]; decide)), rfl⟩ | exact ⟨rt_f (by rw [← Bool.not_eq_true]; intro q; apply c_6; have := q; rw [Nat.testBit_eq_decide_div_mod_eq] at this; rw [of_decide_eq_true this]; rfl), rfl⟩) (by decide) (by decide)
end M1
