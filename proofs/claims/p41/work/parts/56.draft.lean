/-! HeapGames$Game: names, a rule more -/
theorem lN_inj {a b : Nat} (ha : a < 2 ^ 64) (hb : b < 2 ^ 64) (h : lN a = lN b) : a = b := by
  have := congrArg (fun x => x.toBitVec.toNat) h
  simp only [wb_tn ha, wb_tn hb] at this
  exact this
theorem lg_eq {x y : Int64} : lg_cmp x y = 0 ↔ x = y := by
  unfold lg_cmp
  split
  · rename_i h
    constructor
    · intro h2; cases h2
    · intro h2; subst h2; exact absurd (Int64.lt_iff_toInt_lt.mp (show x < x from h)) (Int.lt_irrefl _)
  · split
    · rename_i h; simp [h]
    · rename_i h1 h2
      constructor
      · intro h3; cases h3
      · intro h3; exact absurd h3 h2
section DR
variable (E : GE) (l : Launch)
variable {I : Nat → Nat → Int32} {J : Nat → Nat → Int64} {R : Nat → Nat → Option Nat} {D : Nat → Nat → UInt64} {N : Nat} {ex : Bool} {g : Nat}
set_option maxRecDepth 100000 in
theorem c_ruleNamed (hg : isG R N g) {nr : Nat} (hn : I g 1 = nI nr) (hn6 : nr ≤ 6) {nm : Nat → Nat} (hnm : ∀ k, k < nr → J (g + 4 + 3 * k) 0 = lN (nm k) ∧ nm k < 2 ^ 64) {x : Nat} (hx : x < 2 ^ 64) : g_Ct E l mX0_ruleNamed 2 42 0 0 [.ref g, .long (lN x)] (I, J, R, D, N, ex) (g_is (some (.int (o2i (perF (fun k => decide (nm k = x)) nr 0)))) (I, J, R, D, N, ex)) := by
  refine g_Ct.of (by decide +kernel) (lb rfl) ?_
  have hgN : g < N := by have := hg.2.1; omega
  generalize hQ : perF (fun k => decide (nm k = x)) nr 0 = Q
  have loop : ∀ f k : Nat, k + f = nr → perF (fun k => decide (nm k = x)) f k = Q → g_Wp E l mX0_ruleNamed { frames := 2, cells := 0, slots := 0, locals := 42 } (g_Fin E (g_is (some (.int (o2i Q))) (I, J, R, D, N, ex)) 0 0) 0 0 2 [(3, .int (nI k)), (0, .ref g), (1, .long (lN x))] [] (I, J, R, D, N, ex) := by
    intro f
    induction f with
    | zero =>
      intro k hk hq
      obtain rfl : k = nr := by omega
      refine w_iload_n dX0_ruleNamed_2 rfl ?_
      refine w_aload_n dX0_ruleNamed_3 rfl ?_
      refine x_geti (ci := 0) (k := 1) dX0_ruleNamed_4 hg.1 (by decide) (by decide) hgN fl_X0_25 rfl ?_
      rw [hn]
      refine w_icmp_ge (tgt := 31) dX0_ruleNamed_7 (by decide) (fun c_7 => ?_) (fun c_7 => absurd ((nI_le (by omega) (by omega))) c_7)
      refine w_iconst (v := (-1)) dX0_ruleNamed_31 (by decide) ?_
      refine w_iret dX0_ruleNamed_32 rfl rfl ⟨rt_i (by rw [← hq]; rfl), rfl⟩ (by decide) (by decide)
    | succ f ih =>
      intro k hk hq
      rw [perF] at hq
      have hr := (hg.2.2.2.2.2.2 k (by omega)).2
      obtain ⟨e1, e2⟩ := hnm k (by omega)
      refine w_iload_n dX0_ruleNamed_2 rfl ?_
      refine w_aload_n dX0_ruleNamed_3 rfl ?_
      refine x_geti (ci := 0) (k := 1) dX0_ruleNamed_4 hg.1 (by decide) (by decide) hgN fl_X0_25 rfl ?_
      rw [hn]
      refine w_icmp_ge (tgt := 31) dX0_ruleNamed_7 (by decide) (fun c_7 => absurd c_7 ((nI_ge (by omega) (by omega)))) (fun c_7 => ?_)
      refine w_aload_n dX0_ruleNamed_10 rfl ?_
      refine w_iload_n dX0_ruleNamed_11 rfl ?_
      refine y_callV dX0_ruleNamed_12 lk_X0_50 [.int (nI k)] rfl (c_ruleAt E l hg (show k < 6 by omega)) (g_recv.obj (ci := 0) hg.1 (by decide) hgN) rfl ⟨⟨by decide, by decide⟩, by decide, by decide⟩ (lb rfl) ?_
      refine x_getj (ci := 2) (k := 0) dX0_ruleNamed_15 hr.1 (by decide) (by decide) (by have := hr.2.1; omega) fl_X0_54 rfl ?_
      rw [e1]
      refine w_lload_n dX0_ruleNamed_18 rfl ?_
      refine w_lcmp dX0_ruleNamed_19 ?_
      refine w_if_ne (tgt := 25) dX0_ruleNamed_20 (by decide) (fun c_20 => ?_) (fun c_20 => ?_)
      · refine w_iinc (v := nI (k + 1)) dX0_ruleNamed_25 rfl (nI_inc _) (by decide) rfl ?_
        refine w_goto (tgt := 2) dX0_ruleNamed_28 (by decide) ?_
        exact w_lv [3, 0, 1] (ih (k + 1) (by omega) (by rw [← hq, if_neg (fun q => c_20 (lg_eq.mpr (by rw [of_decide_eq_true q])))]))
      · refine w_iload_n dX0_ruleNamed_23 rfl ?_
        refine w_iret dX0_ruleNamed_24 rfl rfl ⟨rt_i (by rw [← hq, if_pos (decide_eq_true (lN_inj e2 hx (lg_eq.mp c_20)))]; rfl), rfl⟩ (by decide) (by decide)
  refine w_iconst (v := 0) dX0_ruleNamed_0 (by decide) ?_
  refine w_istore_n dX0_ruleNamed_1 (by decide) rfl ?_
  exact w_lv [3, 0, 1] (loop nr 0 (by omega) hQ)
set_option maxRecDepth 100000 in
theorem c_addRule (hg : isG R N g) {nr : Nat} (hn : I g 1 = nI nr) (hn6 : nr < 6) (x y : Int64) (kd : Int32) : g_Ct E l mX0_addRule 2 42 0 0 [.ref g, .long x, .int kd, .long y] (I, J, R, D, N, ex) (g_is none (up2 (up2 I (g + 4 + 3 * nr) 1 kd) g 1 (nI (nr + 1)), up2 (up2 J (g + 4 + 3 * nr) 0 x) (g + 4 + 3 * nr) 2 y, R, D, N, ex)) := by
  refine g_Ct.of (by decide +kernel) (lb rfl) ?_
  have hgN : g < N := by have := hg.2.1; omega
  have hr := (hg.2.2.2.2.2.2 nr hn6).2
  have hrN : g + 4 + 3 * nr < N := by have := hr.2.1; omega
  refine w_aload_n dX0_addRule_0 rfl ?_
  refine w_aload_n dX0_addRule_1 rfl ?_
  refine x_geti (ci := 0) (k := 1) dX0_addRule_2 hg.1 (by decide) (by decide) hgN fl_X0_25 rfl ?_
  rw [hn]
  refine y_callV dX0_addRule_5 lk_X0_50 [.int (nI nr)] rfl (c_ruleAt E l hg hn6) (g_recv.obj (ci := 0) hg.1 (by decide) hgN) rfl ⟨⟨by decide, by decide⟩, by decide, by decide⟩ (lb rfl) ?_
  refine w_astore dX0_addRule_8 (by decide) rfl ?_
  refine w_aload dX0_addRule_10 rfl ?_
  refine w_lload_n dX0_addRule_12 rfl ?_
  refine x_putj (ci := 2) (k := 0) dX0_addRule_13 hr.1 (by decide) (by decide) hrN fl_X0_54 rfl rfl ?_
  refine w_aload dX0_addRule_16 rfl ?_
  refine w_iload_n dX0_addRule_18 rfl ?_
  refine x_puti (ci := 2) (k := 1) dX0_addRule_19 hr.1 (by decide) (by decide) hrN fl_X0_58 rfl rfl ?_
  refine w_aload dX0_addRule_22 rfl ?_
  refine w_lload dX0_addRule_24 rfl ?_
  refine x_putj (ci := 2) (k := 2) dX0_addRule_26 hr.1 (by decide) (by decide) hrN fl_X0_61 rfl rfl ?_
  refine w_aload_n dX0_addRule_29 rfl ?_
  refine w_dup dX0_addRule_30 rfl ?_
  refine x_geti (ci := 0) (k := 1) dX0_addRule_31 hg.1 (by decide) (by decide) hgN fl_X0_25 rfl ?_
  refine w_st (show _ = [.int (nI nr), .ref g] from by rw [up2_n _ _ (by omega), hn]) ?_
  refine w_iconst (v := 1) dX0_addRule_34 (by decide) ?_
  refine w_iadd dX0_addRule_35 ?_
  rw [nI_1]
  refine x_puti (ci := 0) (k := 1) dX0_addRule_36 hg.1 (by decide) (by decide) hgN fl_X0_25 rfl rfl ?_
  refine w_vret dX0_addRule_39 rfl ⟨rfl, rfl⟩ (by decide) (by decide)
end DR
