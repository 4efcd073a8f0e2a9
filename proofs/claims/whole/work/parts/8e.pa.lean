/-! HeapGamesModel.parse -/
theorem cp_in2 {I : Nat → Nat → Int32} {o1 a o2 b m j : Nat} (hj : j < m) : cpI I o1 a o2 b m o2 (b + j) = I o1 (a + j) := by
  show (if o2 = o2 ∧ b ≤ b + j ∧ b + j < b + m then I o1 (a + (b + j - b)) else _) = _
  rw [if_pos ⟨rfl, by omega, by omega⟩, show b + j - b = j by omega]
theorem cp_0 {I : Nat → Nat → Int32} {o1 o2 m j : Nat} (hj : j < m) : cpI I o1 0 o2 0 m o2 j = I o1 j := by
  have := cp_in2 (I := I) (o1 := o1) (a := 0) (o2 := o2) (b := 0) hj
  rw [Nat.zero_add] at this
  exact this
theorem mrC.cp {I I' : Nat → Nat → Int32} {r k : Nat} {al : List Nat} (h : mrC I r k al) (f1 : I' 85 r = I 85 r) (f2 : I' 86 r = I 86 r) (f3 : ∀ j, j < 8 → I' 87 (8 * r + j) = I 87 (8 * r + j)) : mrC I' r k al := by
  obtain ⟨h1, h2, h3, h4, h5, h6⟩ := h
  exact ⟨f1.trans h1, h2, f2.trans h3, h4, fun j hj => (f3 j (by omega)).trans (h5 j hj), h6⟩
section MF2
variable (E : GE) (l : Launch)
variable {I : Nat → Nat → Int32} {J : Nat → Nat → Int64} {R : Nat → Nat → Option Nat} {D : Nat → Nat → UInt64} {N : Nat} {ex : Bool} {A : AS} {c L : Nat}
set_option maxRecDepth 100000 in
theorem m_laysRulesAside (hR : lkM R N) : g_Ct E l mX7_laysRulesAside 1 25 0 0 [.ref 79] (I, J, R, D, N, ex) (g_rk (fun I' J' => ((∀ o, o ≠ 88 → o ≠ 89 → o ≠ 90 → I' o = I o) ∧ (∀ j, j < 6 → I' 88 j = I 85 j) ∧ (∀ j, j < 6 → I' 89 j = I 86 j) ∧ ∀ j, j < 48 → I' 90 j = I 87 j) ∧ ∀ o, o ≠ 93 → J' o = J o) R D N ex) := by
  refine g_Ct.of (by decide +kernel) (lb rfl) ?_
  have hN := hR.1
  have fin : (∀ o, o ≠ 88 → o ≠ 89 → o ≠ 90 → cpI (cpI (cpI I 85 0 88 0 6) 86 0 89 0 6) 87 0 90 0 48 o = I o) ∧ (∀ j, j < 6 → cpI (cpI (cpI I 85 0 88 0 6) 86 0 89 0 6) 87 0 90 0 48 88 j = I 85 j) ∧ (∀ j, j < 6 → cpI (cpI (cpI I 85 0 88 0 6) 86 0 89 0 6) 87 0 90 0 48 89 j = I 86 j) ∧ ∀ j, j < 48 → cpI (cpI (cpI I 85 0 88 0 6) 86 0 89 0 6) 87 0 90 0 48 90 j = I 87 j := by
    refine ⟨fun o a b d => by funext j; rw [cp_out (Or.inl d), cp_out (Or.inl b), cp_out (Or.inl a)], fun j hj => ?_, fun j hj => ?_, fun j hj => ?_⟩
    · rw [cp_out (Or.inl (by decide)), cp_out (Or.inl (by decide)), cp_0 hj]
    · rw [cp_out (Or.inl (by decide)), cp_0 hj, cp_out (Or.inl (by decide))]
    · rw [cp_0 hj, cp_out (Or.inl (by decide)), cp_out (Or.inl (by decide))]
  generalize hI9 : cpI (cpI (cpI I 85 0 88 0 6) 86 0 89 0 6) 87 0 90 0 48 = I9 at *
  have loop : ∀ (f k : Nat) (J' : Nat → Nat → Int64), k + f = 6 → (∀ o, o ≠ 93 → J' o = J o) → g_Wp E l mX7_laysRulesAside { frames := 1, cells := 0, slots := 0, locals := 25 } (g_Fin E (g_rk (fun I' J' => ((∀ o, o ≠ 88 → o ≠ 89 → o ≠ 90 → I' o = I o) ∧ (∀ j, j < 6 → I' 88 j = I 85 j) ∧ (∀ j, j < 6 → I' 89 j = I 86 j) ∧ ∀ j, j < 48 → I' 90 j = I 87 j) ∧ ∀ o, o ≠ 93 → J' o = J o) R D N ex) 0 0) 0 0 47 [(1, .int (nI k)), (0, .ref 79)] [] (I9, J', R, D, N, ex) := by
    intro f
    induction f with
    | zero =>
      intro k J' hk g
      obtain rfl : k = 6 := by omega
      refine w_iload_n dX7_laysRulesAside_47 rfl ?_
      refine w_bipush (v := 6) dX7_laysRulesAside_48 (by decide) ?_
      refine w_icmp_ge (tgt := 71) dX7_laysRulesAside_50 (by decide) (fun c_50 => ?_) (fun c_50 => absurd ((by decide)) c_50)
      refine w_vret dX7_laysRulesAside_71 rfl ⟨_, _, rfl, ⟨fin, g⟩, rfl⟩ (by decide) (by decide)
    | succ f ih =>
      intro k J' hk g
      refine w_iload_n dX7_laysRulesAside_47 rfl ?_
      refine w_bipush (v := 6) dX7_laysRulesAside_48 (by decide) ?_
      refine w_icmp_ge (tgt := 71) dX7_laysRulesAside_50 (by decide) (fun c_50 => absurd c_50 ((nI_ge (a := k) (b := 6) (by omega) (by omega)))) (fun c_50 => ?_)
      refine w_aload_n dX7_laysRulesAside_53 rfl ?_
      refine x_getr (ci := 7) (k := 14) (a := 93) dX7_laysRulesAside_54 rfl (by decide) (by decide) (by omega) fl_X7_51 (Or.inr ⟨_, rfl⟩) hR.2.2.2.2.2.2.2.2.2.2.2.2.2.2.1 ?_
      refine w_iload_n dX7_laysRulesAside_57 rfl ?_
      refine w_aload_n dX7_laysRulesAside_58 rfl ?_
      refine x_getr (ci := 7) (k := 13) (a := 92) dX7_laysRulesAside_59 rfl (by decide) (by decide) (by omega) fl_X7_47 (Or.inr ⟨_, rfl⟩) hR.2.2.2.2.2.2.2.2.2.2.2.2.2.1 ?_
      refine w_iload_n dX7_laysRulesAside_62 rfl ?_
      refine x_lald (j := k) dX7_laysRulesAside_63 rfl (by omega) rfl (show k < 6 by omega) ?_
      refine x_last (j := k) dX7_laysRulesAside_64 rfl (by omega) rfl (show k < 6 by omega) ?_
      refine w_iinc (v := nI (k + 1)) dX7_laysRulesAside_65 rfl (nI_inc _) (by decide) rfl ?_
      refine w_goto (tgt := 47) dX7_laysRulesAside_68 (by decide) ?_
      exact w_lv [1, 0] (ih (k + 1) _ (by omega) (fun o ho => by rw [← g o ho]; funext j; exact up2_n _ _ (by simp [ho])))
  refine w_aload_n dX7_laysRulesAside_0 rfl ?_
  refine x_getr (ci := 7) (k := 6) (a := 85) dX7_laysRulesAside_1 rfl (by decide) (by decide) (by omega) fl_X7_26 (Or.inr ⟨_, rfl⟩) hR.2.2.2.2.2.2.1 ?_
  refine w_iconst (v := 0) dX7_laysRulesAside_4 (by decide) ?_
  refine w_aload_n dX7_laysRulesAside_5 rfl ?_
  refine x_getr (ci := 7) (k := 9) (a := 88) dX7_laysRulesAside_6 rfl (by decide) (by decide) (by omega) fl_X7_35 (Or.inr ⟨_, rfl⟩) hR.2.2.2.2.2.2.2.2.2.1 ?_
  refine w_iconst (v := 0) dX7_laysRulesAside_9 (by decide) ?_
  refine w_bipush (v := 6) dX7_laysRulesAside_10 (by decide) ?_
  refine z_callS dX7_laysRulesAside_12 lk_X7_252 [.ref 85, .int (nI 0), .ref 88, .int (nI 0), .int (nI 6)] rfl (m_copies E l (o1 := 85) (o2 := 88) (n1 := 6) (n2 := 6) rfl rfl (by omega) (by omega) (by decide) (by decide) (by decide) (by decide) (by decide)) rfl ⟨⟨by decide, by decide⟩, by decide, by decide⟩ (lb rfl) ?_
  refine w_aload_n dX7_laysRulesAside_15 rfl ?_
  refine x_getr (ci := 7) (k := 7) (a := 86) dX7_laysRulesAside_16 rfl (by decide) (by decide) (by omega) fl_X7_29 (Or.inr ⟨_, rfl⟩) hR.2.2.2.2.2.2.2.1 ?_
  refine w_iconst (v := 0) dX7_laysRulesAside_19 (by decide) ?_
  refine w_aload_n dX7_laysRulesAside_20 rfl ?_
  refine x_getr (ci := 7) (k := 10) (a := 89) dX7_laysRulesAside_21 rfl (by decide) (by decide) (by omega) fl_X7_38 (Or.inr ⟨_, rfl⟩) hR.2.2.2.2.2.2.2.2.2.2.1 ?_
  refine w_iconst (v := 0) dX7_laysRulesAside_24 (by decide) ?_
  refine w_bipush (v := 6) dX7_laysRulesAside_25 (by decide) ?_
  refine z_callS dX7_laysRulesAside_27 lk_X7_252 [.ref 86, .int (nI 0), .ref 89, .int (nI 0), .int (nI 6)] rfl (m_copies E l (o1 := 86) (o2 := 89) (n1 := 6) (n2 := 6) rfl rfl (by omega) (by omega) (by decide) (by decide) (by decide) (by decide) (by decide)) rfl ⟨⟨by decide, by decide⟩, by decide, by decide⟩ (lb rfl) ?_
  refine w_aload_n dX7_laysRulesAside_30 rfl ?_
  refine x_getr (ci := 7) (k := 8) (a := 87) dX7_laysRulesAside_31 rfl (by decide) (by decide) (by omega) fl_X7_32 (Or.inr ⟨_, rfl⟩) hR.2.2.2.2.2.2.2.2.1 ?_
  refine w_iconst (v := 0) dX7_laysRulesAside_34 (by decide) ?_
  refine w_aload_n dX7_laysRulesAside_35 rfl ?_
  refine x_getr (ci := 7) (k := 11) (a := 90) dX7_laysRulesAside_36 rfl (by decide) (by decide) (by omega) fl_X7_41 (Or.inr ⟨_, rfl⟩) hR.2.2.2.2.2.2.2.2.2.2.2.1 ?_
  refine w_iconst (v := 0) dX7_laysRulesAside_39 (by decide) ?_
  refine w_bipush (v := 48) dX7_laysRulesAside_40 (by decide) ?_
  refine z_callS dX7_laysRulesAside_42 lk_X7_252 [.ref 87, .int (nI 0), .ref 90, .int (nI 0), .int (nI 48)] rfl (m_copies E l (o1 := 87) (o2 := 90) (n1 := 48) (n2 := 48) rfl rfl (by omega) (by omega) (by decide) (by decide) (by decide) (by decide) (by decide)) rfl ⟨⟨by decide, by decide⟩, by decide, by decide⟩ (lb rfl) ?_
  rw [hI9]
  refine w_iconst (v := 0) dX7_laysRulesAside_45 (by decide) ?_
  refine w_istore_n dX7_laysRulesAside_46 (by decide) rfl ?_
  exact w_lv [1, 0] (loop 6 0 J (by omega) (fun _ _ => rfl))
set_option maxRecDepth 100000 in
theorem m_takesRulesBack (hR : lkM R N) : g_Ct E l mX7_takesRulesBack 1 25 0 0 [.ref 79] (I, J, R, D, N, ex) (g_rk (fun I' J' => ((∀ o, o ≠ 85 → o ≠ 86 → o ≠ 87 → I' o = I o) ∧ (∀ j, j < 6 → I' 85 j = I 88 j) ∧ (∀ j, j < 6 → I' 86 j = I 89 j) ∧ ∀ j, j < 48 → I' 87 j = I 90 j) ∧ ∀ o, o ≠ 92 → J' o = J o) R D N ex) := by
  refine g_Ct.of (by decide +kernel) (lb rfl) ?_
  have hN := hR.1
  have fin : (∀ o, o ≠ 85 → o ≠ 86 → o ≠ 87 → cpI (cpI (cpI I 88 0 85 0 6) 89 0 86 0 6) 90 0 87 0 48 o = I o) ∧ (∀ j, j < 6 → cpI (cpI (cpI I 88 0 85 0 6) 89 0 86 0 6) 90 0 87 0 48 85 j = I 88 j) ∧ (∀ j, j < 6 → cpI (cpI (cpI I 88 0 85 0 6) 89 0 86 0 6) 90 0 87 0 48 86 j = I 89 j) ∧ ∀ j, j < 48 → cpI (cpI (cpI I 88 0 85 0 6) 89 0 86 0 6) 90 0 87 0 48 87 j = I 90 j := by
    refine ⟨fun o a b d => by funext j; rw [cp_out (Or.inl d), cp_out (Or.inl b), cp_out (Or.inl a)], fun j hj => ?_, fun j hj => ?_, fun j hj => ?_⟩
    · rw [cp_out (Or.inl (by decide)), cp_out (Or.inl (by decide)), cp_0 hj]
    · rw [cp_out (Or.inl (by decide)), cp_0 hj, cp_out (Or.inl (by decide))]
    · rw [cp_0 hj, cp_out (Or.inl (by decide)), cp_out (Or.inl (by decide))]
  generalize hI9 : cpI (cpI (cpI I 88 0 85 0 6) 89 0 86 0 6) 90 0 87 0 48 = I9 at *
  have loop : ∀ (f k : Nat) (J' : Nat → Nat → Int64), k + f = 6 → (∀ o, o ≠ 92 → J' o = J o) → g_Wp E l mX7_takesRulesBack { frames := 1, cells := 0, slots := 0, locals := 25 } (g_Fin E (g_rk (fun I' J' => ((∀ o, o ≠ 85 → o ≠ 86 → o ≠ 87 → I' o = I o) ∧ (∀ j, j < 6 → I' 85 j = I 88 j) ∧ (∀ j, j < 6 → I' 86 j = I 89 j) ∧ ∀ j, j < 48 → I' 87 j = I 90 j) ∧ ∀ o, o ≠ 92 → J' o = J o) R D N ex) 0 0) 0 0 47 [(1, .int (nI k)), (0, .ref 79)] [] (I9, J', R, D, N, ex) := by
    intro f
    induction f with
    | zero =>
      intro k J' hk g
      obtain rfl : k = 6 := by omega
      refine w_iload_n dX7_takesRulesBack_47 rfl ?_
      refine w_bipush (v := 6) dX7_takesRulesBack_48 (by decide) ?_
      refine w_icmp_ge (tgt := 71) dX7_takesRulesBack_50 (by decide) (fun c_50 => ?_) (fun c_50 => absurd ((by decide)) c_50)
      refine w_vret dX7_takesRulesBack_71 rfl ⟨_, _, rfl, ⟨fin, g⟩, rfl⟩ (by decide) (by decide)
    | succ f ih =>
      intro k J' hk g
      refine w_iload_n dX7_takesRulesBack_47 rfl ?_
      refine w_bipush (v := 6) dX7_takesRulesBack_48 (by decide) ?_
      refine w_icmp_ge (tgt := 71) dX7_takesRulesBack_50 (by decide) (fun c_50 => absurd c_50 ((nI_ge (a := k) (b := 6) (by omega) (by omega)))) (fun c_50 => ?_)
      refine w_aload_n dX7_takesRulesBack_53 rfl ?_
      refine x_getr (ci := 7) (k := 13) (a := 92) dX7_takesRulesBack_54 rfl (by decide) (by decide) (by omega) fl_X7_47 (Or.inr ⟨_, rfl⟩) hR.2.2.2.2.2.2.2.2.2.2.2.2.2.1 ?_
      refine w_iload_n dX7_takesRulesBack_57 rfl ?_
      refine w_aload_n dX7_takesRulesBack_58 rfl ?_
      refine x_getr (ci := 7) (k := 14) (a := 93) dX7_takesRulesBack_59 rfl (by decide) (by decide) (by omega) fl_X7_51 (Or.inr ⟨_, rfl⟩) hR.2.2.2.2.2.2.2.2.2.2.2.2.2.2.1 ?_
      refine w_iload_n dX7_takesRulesBack_62 rfl ?_
      refine x_lald (j := k) dX7_takesRulesBack_63 rfl (by omega) rfl (show k < 6 by omega) ?_
      refine x_last (j := k) dX7_takesRulesBack_64 rfl (by omega) rfl (show k < 6 by omega) ?_
      refine w_iinc (v := nI (k + 1)) dX7_takesRulesBack_65 rfl (nI_inc _) (by decide) rfl ?_
      refine w_goto (tgt := 47) dX7_takesRulesBack_68 (by decide) ?_
      exact w_lv [1, 0] (ih (k + 1) _ (by omega) (fun o ho => by rw [← g o ho]; funext j; exact up2_n _ _ (by simp [ho])))
  refine w_aload_n dX7_takesRulesBack_0 rfl ?_
  refine x_getr (ci := 7) (k := 9) (a := 88) dX7_takesRulesBack_1 rfl (by decide) (by decide) (by omega) fl_X7_35 (Or.inr ⟨_, rfl⟩) hR.2.2.2.2.2.2.2.2.2.1 ?_
  refine w_iconst (v := 0) dX7_takesRulesBack_4 (by decide) ?_
  refine w_aload_n dX7_takesRulesBack_5 rfl ?_
  refine x_getr (ci := 7) (k := 6) (a := 85) dX7_takesRulesBack_6 rfl (by decide) (by decide) (by omega) fl_X7_26 (Or.inr ⟨_, rfl⟩) hR.2.2.2.2.2.2.1 ?_
  refine w_iconst (v := 0) dX7_takesRulesBack_9 (by decide) ?_
  refine w_bipush (v := 6) dX7_takesRulesBack_10 (by decide) ?_
  refine z_callS dX7_takesRulesBack_12 lk_X7_252 [.ref 88, .int (nI 0), .ref 85, .int (nI 0), .int (nI 6)] rfl (m_copies E l (o1 := 88) (o2 := 85) (n1 := 6) (n2 := 6) rfl rfl (by omega) (by omega) (by decide) (by decide) (by decide) (by decide) (by decide)) rfl ⟨⟨by decide, by decide⟩, by decide, by decide⟩ (lb rfl) ?_
  refine w_aload_n dX7_takesRulesBack_15 rfl ?_
  refine x_getr (ci := 7) (k := 10) (a := 89) dX7_takesRulesBack_16 rfl (by decide) (by decide) (by omega) fl_X7_38 (Or.inr ⟨_, rfl⟩) hR.2.2.2.2.2.2.2.2.2.2.1 ?_
  refine w_iconst (v := 0) dX7_takesRulesBack_19 (by decide) ?_
  refine w_aload_n dX7_takesRulesBack_20 rfl ?_
  refine x_getr (ci := 7) (k := 7) (a := 86) dX7_takesRulesBack_21 rfl (by decide) (by decide) (by omega) fl_X7_29 (Or.inr ⟨_, rfl⟩) hR.2.2.2.2.2.2.2.1 ?_
  refine w_iconst (v := 0) dX7_takesRulesBack_24 (by decide) ?_
  refine w_bipush (v := 6) dX7_takesRulesBack_25 (by decide) ?_
  refine z_callS dX7_takesRulesBack_27 lk_X7_252 [.ref 89, .int (nI 0), .ref 86, .int (nI 0), .int (nI 6)] rfl (m_copies E l (o1 := 89) (o2 := 86) (n1 := 6) (n2 := 6) rfl rfl (by omega) (by omega) (by decide) (by decide) (by decide) (by decide) (by decide)) rfl ⟨⟨by decide, by decide⟩, by decide, by decide⟩ (lb rfl) ?_
  refine w_aload_n dX7_takesRulesBack_30 rfl ?_
  refine x_getr (ci := 7) (k := 11) (a := 90) dX7_takesRulesBack_31 rfl (by decide) (by decide) (by omega) fl_X7_41 (Or.inr ⟨_, rfl⟩) hR.2.2.2.2.2.2.2.2.2.2.2.1 ?_
  refine w_iconst (v := 0) dX7_takesRulesBack_34 (by decide) ?_
  refine w_aload_n dX7_takesRulesBack_35 rfl ?_
  refine x_getr (ci := 7) (k := 8) (a := 87) dX7_takesRulesBack_36 rfl (by decide) (by decide) (by omega) fl_X7_32 (Or.inr ⟨_, rfl⟩) hR.2.2.2.2.2.2.2.2.1 ?_
  refine w_iconst (v := 0) dX7_takesRulesBack_39 (by decide) ?_
  refine w_bipush (v := 48) dX7_takesRulesBack_40 (by decide) ?_
  refine z_callS dX7_takesRulesBack_42 lk_X7_252 [.ref 90, .int (nI 0), .ref 87, .int (nI 0), .int (nI 48)] rfl (m_copies E l (o1 := 90) (o2 := 87) (n1 := 48) (n2 := 48) rfl rfl (by omega) (by omega) (by decide) (by decide) (by decide) (by decide) (by decide)) rfl ⟨⟨by decide, by decide⟩, by decide, by decide⟩ (lb rfl) ?_
  rw [hI9]
  refine w_iconst (v := 0) dX7_takesRulesBack_45 (by decide) ?_
  refine w_istore_n dX7_takesRulesBack_46 (by decide) rfl ?_
  exact w_lv [1, 0] (loop 6 0 J (by omega) (fun _ _ => rfl))
/-- the model as it begins to read -/
def rd0 (I : Nat → Nat → Int32) (J : Nat → Nat → Int64) (L : Nat) (zk : Nat) (I1 : Nat → Nat → Int32) (J1 : Nat → Nat → Int64) : Prop := (∀ o, o ≠ 79 → o ≠ 80 → o ≠ 81 → (o < 88 ∨ 90 < o) → I1 o = I o) ∧ (∀ j, j < 172 → I1 81 j = I 80 j) ∧ (∀ j, j < 6 → I1 88 j = I 85 j) ∧ (∀ j, j < 6 → I1 89 j = I 86 j) ∧ (∀ j, j < 48 → I1 90 j = I 87 j) ∧ (∀ k, (k < 15 ∨ 17 < k) → (k < 22 ∨ 32 < k) → I1 79 k = I 79 k) ∧ (I1 79 15 = nI 0 ∧ I1 79 16 = nI 0 ∧ I1 79 17 = 0 ∧ I1 79 22 = nI 0 ∧ I1 79 23 = nI L ∧ I1 79 25 = nI 0 ∧ I1 79 28 = nI 0 ∧ I1 79 30 = 0 ∧ I1 79 31 = 0 ∧ I1 79 32 = 0) ∧ (∀ j, j < zk → I1 80 j = 0) ∧ ∀ o, o ≠ 93 → J1 o = J o
set_option maxRecDepth 100000 in
theorem m_parse_x (hR : lkM R N) (hA : aOK A) (h : rM I A c) {x : Int32} (hx : x < 0 ∨ ¬ x < nI (A.tl + 1)) : g_Ct E l mX7_parse 8 169 0 0 [.ref 79, .int x] (I, J, R, D, N, ex) (g_is (some (.int 0)) (up2 (up2 I 79 17 0) 79 17 1, J, R, D, N, ex)) := by
  refine g_Ct.of (by decide +kernel) (lb rfl) ?_
  have hN := hR.1
  have h9 := h.thr 0
  have z9 : up2 I 79 17 0 79 17 = 0 := up2_s ..
  have h4 := hA.2.2.2.1
  refine w_aload_n dX7_parse_0 rfl ?_
  refine w_iconst (v := 0) dX7_parse_1 (by decide) ?_
  refine x_puti (ci := 7) (k := 17) dX7_parse_2 rfl (by decide) (by decide) (by omega) fl_X7_73 rfl rfl ?_
  refine w_aload_n dX7_parse_5 rfl ?_
  refine w_iload_n dX7_parse_6 rfl ?_
  refine w_iconst (v := 0) dX7_parse_7 (by decide) ?_
  refine w_aload_n dX7_parse_8 rfl ?_
  refine x_geti (ci := 7) (k := 22) dX7_parse_9 rfl (by decide) (by decide) (by omega) fl_X7_116 rfl ?_
  rw [h9.2.2.2.2.2.1.1]
  refine y_callS dX7_parse_12 lk_X7_77 [.int x, .int 0, .int (nI A.tl)] rfl (m_within E l _ _ _ _) rfl ⟨⟨by decide, by decide⟩, by decide, by decide⟩ (lb rfl) ?_
  rw [decide_eq_false (show ¬ (¬ x < 0 ∧ ¬ nI A.tl < x) from by have := wi_f (n := A.tl + 1) (by omega) hx; rw [nI_pred] at this; exact this)]
  refine w_iconst (v := 1) dX7_parse_15 (by decide) ?_
  refine y_callV dX7_parse_16 lk_X7_256 [.int 0, .int 1] rfl (m_may_f E l (by omega) z9 (by decide)) (g_recv.obj (ci := 7) rfl (by decide) (show 79 < N by omega)) rfl ⟨⟨by decide, by decide⟩, by decide, by decide⟩ (lb rfl) ?_
  refine w_if_ne (tgt := 24) dX7_parse_19 (by decide) (fun c_19 => absurd (rfl) c_19) (fun c_19 => ?_)
  refine w_iconst (v := 0) dX7_parse_22 (by decide) ?_
  refine w_iret dX7_parse_23 rfl rfl ⟨rfl, rfl⟩ (by decide) (by decide)
/-- what parse comes to -/
def paP (A : AS) (c : Nat) (y : Int32) (I' : Nat → Nat → Int32) (r : (Nat × Nat) ⊕ PS) : Prop := match r with
  | .inl q => y = flS q.1 q.2 ∧ rM I' (A.ru, A.nr, A.st, A.hi, A.sn, A.tx, 0) (c + 1)
  | .inr P => y = nI P.ru.length ∧ ∀ ru, prA ru P → rM I' (ru, P.ru.length, P.st, [], fun _ => none, A.tx, 0) (c + 1)
/-- how a reading ends -/
def rpQ (I1 : Nat → Nat → Int32) (J1 : Nat → Nat → Int64) (I' : Nat → Nat → Int32) (J' : Nat → Nat → Int64) (r : (Nat × Nat) ⊕ PS) : Prop := frW I1 I' J1 J' ∧ match r with
  | .inl q => I' 79 28 = nI q.2 ∧ I' 79 29 = nI q.1 ∧ q.2 ≠ 0 ∧ q.2 ≤ 5
  | .inr P => I' 79 28 = nI 0 ∧ pmC I' J' P
theorem rd_fin {I I1 I2 I3 : Nat → Nat → Int32} {J J1 J2 : Nat → Nat → Int64} (h : rM I A c) (hA : aOK A) (h1 : rd0 I J L 172 I1 J1) (h2 : frW I1 I2 J1 J2) (h3 : (∀ o, o ≠ 79 → o ≠ 80 → (o < 85 ∨ 87 < o) → I3 o = I2 o) ∧ (∀ k, (k < 15 ∨ 16 < k) → I3 79 k = I2 79 k) ∧ I3 79 15 = I 79 15 ∧ I3 79 16 = I 79 16 ∧ (∀ j, j < 172 → I3 80 j = I2 81 j) ∧ (∀ j, j < 6 → I3 85 j = I2 88 j) ∧ (∀ j, j < 6 → I3 86 j = I2 89 j) ∧ ∀ j, j < 48 → I3 87 j = I2 90 j) : (∀ o, o < 79 → I3 o = I o) ∧ I3 79 17 = 0 ∧ rM I3 (A.ru, A.nr, A.st, A.hi, A.sn, A.tx, 0) (c + 1) := by
  obtain ⟨a1, a2, a3, a4, a5, a6, a7, a8, a9⟩ := h1
  obtain ⟨b1, b2, b3⟩ := h2
  obtain ⟨d1, d2, d3, d4, d5, d6, d7, d8⟩ := h3
  have f79 : ∀ k, (k < 15 ∨ 17 < k) → (k < 22 ∨ 32 < k) → k ≠ 35 → I3 79 k = I 79 k := fun k x y z => by rw [d2 k (by omega), b2 k (by omega) (by omega) z, a6 k x y]
  have fo : ∀ o, o ≠ 79 → o ≠ 80 → o ≠ 81 → (o < 85 ∨ 90 < o) → o ≠ 97 → I3 o = I o := fun o x y z w v => by rw [d1 o x y (by omega), b1 o x y (by omega) v, a1 o x y z (by omega)]
  obtain ⟨h1, h2, h3, h4, h5, h6, h7, h8⟩ := h
  have h6n := hA.1
  refine ⟨fun o ho => fo o (by omega) (by omega) (by omega) (by omega) (by omega), by rw [d2 17 (by decide), b2 17 (by decide) (by decide) (by decide)]; exact a7.2.2.1, slM.cp h1 hA.2.2.1 (fun j hj => by rw [Nat.zero_add, d5 j hj, b1 81 (by decide) (by decide) (by decide) (by decide), a2 j hj]), h2.fr (fo 82 (by decide) (by decide) (by decide) (by decide) (by decide)) (f79 5 (by decide) (by decide) (by decide)), h3.fr (fo 83 (by decide) (by decide) (by decide) (by decide) (by decide)) (fo 84 (by decide) (by decide) (by decide) (by decide) (by decide)), ⟨by rw [d3]; exact h4.1, fun k hk => ?_, by rw [d4]; exact h4.2.2⟩, h5.fr (fo 91 (by decide) (by decide) (by decide) (by decide) (by decide)) (fo 95 (by decide) (by decide) (by decide) (by decide) (by decide)), ⟨by rw [d2 22 (by decide), b2 22 (by decide) (by decide) (by decide)]; exact a7.2.2.2.1, fun i hi => absurd hi (Nat.not_lt_zero i)⟩, (h7.fr (fo 94 (by decide) (by decide) (by decide) (by decide) (by decide)) (f79 19 (by decide) (by decide) (by decide))).up (Nat.le_succ c), h8.fr (fo 98 (by decide) (by decide) (by decide) (by decide) (by decide)) (fo 99 (by decide) (by decide) (by decide) (by decide) (by decide)) (fun k x y => f79 k (by omega) (by omega) (by omega))⟩
  have hk' : k < A.nr := hk
  obtain ⟨al, m1, m2⟩ := h4.2.1 k hk'
  refine ⟨al, m1.cp ?_ ?_ (fun j hj => ?_), m2⟩
  · rw [d6 k (by omega), b1 88 (by decide) (by decide) (by decide) (by decide), a3 k (by omega)]
  · rw [d7 k (by omega), b1 89 (by decide) (by decide) (by decide) (by decide), a4 k (by omega)]
  · rw [d8 _ (by omega), b1 90 (by decide) (by decide) (by decide) (by decide), a5 _ (by omega)]
set_option maxRecDepth 100000 in
theorem m_parse (hR : lkM R N) (hA : aOK A) (h : rM I A c) (hc : c ≤ 1000) (hL : L ≤ A.tl) : g_Ct E l mX7_parse 8 169 0 0 [.ref 79, .int (nI L)] (I, J, R, D, N, ex) (g_rj (fun y I' J' => (∀ o, o < 79 → I' o = I o) ∧ I' 79 17 = 0 ∧ (∀ o, o < 79 ∨ 99 < o → J' o = J o) ∧ paP A c y I' (rdF A.tx L)) R D N ex) := by
  refine g_Ct.of (by decide +kernel) (lb rfl) ?_
  have hN := hR.1
  have h9 := h.thr 0
  have z9 : up2 I 79 17 0 79 17 = 0 := up2_s ..
  have h4 := hA.2.2.2.1
  generalize hQ : rdF A.tx L = Q
  have hQok : ∀ P, Q = .inr P → psOK P := fun P e => rdTx_ok _ _ _ _ (Nat.zero_le _) psOK_nil (hQ.trans e)
  have s198 : ∀ (I1 I2 : Nat → Nat → Int32) (J1 J2 : Nat → Nat → Int64) (q : Nat × Nat), rd0 I J L 172 I1 J1 → frW I1 I2 J1 J2 → I2 79 28 = nI q.2 ∧ I2 79 29 = nI q.1 → Q = .inl q → g_Wp E l mX7_parse { frames := 8, cells := 0, slots := 0, locals := 169 } (g_Fin E (g_rj (fun y I' J' => (∀ o, o < 79 → I' o = I o) ∧ I' 79 17 = 0 ∧ (∀ o, o < 79 ∨ 99 < o → J' o = J o) ∧ paP A c y I' Q) R D N ex) 0 0) 0 0 198 [(0, .ref 79), (1, .int (nI L)), (2, .int (I 79 15)), (3, .int (I 79 16))] [] (I2, J2, R, D, N, ex) := by
    intro I1 I2 J1 J2 q h1 h2 h3 hq
    subst hq
    have e28 : ∀ I4 : Nat → Nat → Int32, (∀ o, o ≠ 85 → o ≠ 86 → o ≠ 87 → I4 o = cpI (up2 (up2 I2 79 15 (I 79 15)) 79 16 (I 79 16)) 81 0 80 0 172 o) → I4 79 28 = nI q.2 ∧ I4 79 29 = nI q.1 := fun I4 g => by
      rw [g 79 (by decide) (by decide) (by decide), cp_out (Or.inl (by decide)), cp_out (Or.inl (by decide)), up2_n _ _ (by simp), up2_n _ _ (by simp), up2_n _ _ (by simp), up2_n _ _ (by simp)]
      exact h3
    have fin : ∀ (I4 : Nat → Nat → Int32) (J4 : Nat → Nat → Int64), ((∀ o, o ≠ 85 → o ≠ 86 → o ≠ 87 → I4 o = cpI (up2 (up2 I2 79 15 (I 79 15)) 79 16 (I 79 16)) 81 0 80 0 172 o) ∧ (∀ j, j < 6 → I4 85 j = cpI (up2 (up2 I2 79 15 (I 79 15)) 79 16 (I 79 16)) 81 0 80 0 172 88 j) ∧ (∀ j, j < 6 → I4 86 j = cpI (up2 (up2 I2 79 15 (I 79 15)) 79 16 (I 79 16)) 81 0 80 0 172 89 j) ∧ ∀ j, j < 48 → I4 87 j = cpI (up2 (up2 I2 79 15 (I 79 15)) 79 16 (I 79 16)) 81 0 80 0 172 90 j) → (∀ o, o < 79 → I4 o = I o) ∧ I4 79 17 = 0 ∧ rM I4 (A.ru, A.nr, A.st, A.hi, A.sn, A.tx, 0) (c + 1) := fun I4 J4 ⟨g1, g2, g3, g4⟩ => by
      have c79 : ∀ k, I4 79 k = (up2 (up2 I2 79 15 (I 79 15)) 79 16 (I 79 16)) 79 k := fun k => by rw [g1 79 (by decide) (by decide) (by decide)]; exact cp_out (Or.inl (by decide))
      have co : ∀ o j, o ≠ 79 → o ≠ 80 → cpI (up2 (up2 I2 79 15 (I 79 15)) 79 16 (I 79 16)) 81 0 80 0 172 o j = I2 o j := fun o j x y => by rw [cp_out (Or.inl y), up2_n _ _ (by simp [x]), up2_n _ _ (by simp [x])]
      refine rd_fin h hA h1 h2 ⟨fun o x y z => by funext j; rw [g1 o (by omega) (by omega) (by omega)]; exact co o j x y, fun k x => by rw [c79, up2_n _ _ (by omega), up2_n _ _ (by omega)], by rw [c79, up2_n _ _ (by simp), up2_s], by rw [c79, up2_s], fun j hj => ?_, fun j hj => (g2 j hj).trans (co _ _ (by decide) (by decide)), fun j hj => (g3 j hj).trans (co _ _ (by decide) (by decide)), fun j hj => (g4 j hj).trans (co _ _ (by decide) (by decide))⟩
      rw [g1 80 (by decide) (by decide) (by decide), cp_0 hj, up2_n _ _ (by simp), up2_n _ _ (by simp)]
    refine w_aload_n dX7_parse_198 rfl ?_
    refine w_iload_n dX7_parse_199 rfl ?_
    refine x_puti (ci := 7) (k := 15) dX7_parse_200 rfl (by decide) (by decide) (by omega) fl_X7_98 rfl rfl ?_
    refine w_aload_n dX7_parse_203 rfl ?_
    refine w_iload_n dX7_parse_204 rfl ?_
    refine x_puti (ci := 7) (k := 16) dX7_parse_205 rfl (by decide) (by decide) (by omega) fl_X7_225 rfl rfl ?_
    refine w_aload_n dX7_parse_208 rfl ?_
    refine x_getr (ci := 7) (k := 1) (a := 81) dX7_parse_209 rfl (by decide) (by decide) (by omega) fl_X7_13 (Or.inr ⟨_, rfl⟩) hR.2.2.1 ?_
    refine w_iconst (v := 0) dX7_parse_212 (by decide) ?_
    refine w_aload_n dX7_parse_213 rfl ?_
    refine x_getr (ci := 7) (k := 0) (a := 80) dX7_parse_214 rfl (by decide) (by decide) (by omega) fl_X7_7 (Or.inr ⟨_, rfl⟩) hR.2.1 ?_
    refine w_iconst (v := 0) dX7_parse_217 (by decide) ?_
    refine w_sipush (v := 172) dX7_parse_218 (by decide) ?_
    refine z_callS dX7_parse_221 lk_X7_252 [.ref 81, .int (nI 0), .ref 80, .int (nI 0), .int (nI 172)] rfl (m_copies E l (o1 := 81) (o2 := 80) (n1 := 172) (n2 := 172) rfl rfl (by omega) (by omega) (by decide) (by decide) (by decide) (by decide) (by decide)) rfl ⟨⟨by decide, by decide⟩, by decide, by decide⟩ (lb rfl) ?_
    refine w_aload_n dX7_parse_224 rfl ?_
    refine k_callV dX7_parse_225 lk_X7_274 [] rfl (m_takesRulesBack E l hR) (g_recv.obj (ci := 7) rfl (by decide) (show 79 < N by omega)) rfl ⟨⟨by decide, by decide⟩, by decide, by decide⟩ (lb rfl) (fun I4 J4 h_225 => ?_)
    obtain ⟨g1, g2⟩ := h_225
    obtain ⟨e28a, e29a⟩ := e28 I4 g1.1
    obtain ⟨r1, r2, r3⟩ := fin I4 J4 g1
    refine w_bipush (v := (-2)) dX7_parse_228 (by decide) ?_
    refine w_bipush (v := 8) dX7_parse_230 (by decide) ?_
    refine w_aload_n dX7_parse_232 rfl ?_
    refine x_geti (ci := 7) (k := 29) dX7_parse_233 rfl (by decide) (by decide) (by omega) fl_X7_165 rfl ?_
    rw [e29a]
    refine w_imul dX7_parse_236 ?_
    refine w_aload_n dX7_parse_237 rfl ?_
    refine x_geti (ci := 7) (k := 28) dX7_parse_238 rfl (by decide) (by decide) (by omega) fl_X7_158 rfl ?_
    rw [e28a]
    refine w_iadd dX7_parse_241 ?_
    refine w_isub dX7_parse_242 ?_
    refine w_iret dX7_parse_243 rfl rfl ⟨_, _, _, rfl, ⟨r1, r2, fun o ho => by rw [g2 o (by omega), h2.2.2 o (by omega) (by omega), h1.2.2.2.2.2.2.2.2 o (by omega)], by unfold flS; rw [← nI_add, ← pk_mul]; rfl, r3⟩, rfl⟩ (by decide) (by decide)
  have s149 : ∀ (I1 I2 : Nat → Nat → Int32) (J1 J2 : Nat → Nat → Int64), rd0 I J L 172 I1 J1 → rpQ I1 J1 I2 J2 Q → g_Wp E l mX7_parse { frames := 8, cells := 0, slots := 0, locals := 169 } (g_Fin E (g_rj (fun y I' J' => (∀ o, o < 79 → I' o = I o) ∧ I' 79 17 = 0 ∧ (∀ o, o < 79 ∨ 99 < o → J' o = J o) ∧ paP A c y I' Q) R D N ex) 0 0) 0 0 149 [(0, .ref 79), (1, .int (nI L)), (2, .int (I 79 15)), (3, .int (I 79 16))] [] (I2, J2, R, D, N, ex) := by
    intro I1 I2 J1 J2 h1 ⟨h2, h3⟩
    rcases Q with q | P
    · have t9 := s198 I1 I2 J1 J2 q h1 h2 ⟨h3.1, h3.2.1⟩ rfl
      refine w_aload_n dX7_parse_149 rfl ?_
      refine y_callV dX7_parse_150 lk_X7_161 [] rfl (m_isGood E l hR h3.1 h3.2.2.2) (g_recv.obj (ci := 7) rfl (by decide) (show 79 < N by omega)) rfl ⟨⟨by decide, by decide⟩, by decide, by decide⟩ (lb rfl) ?_
      rw [decide_eq_false h3.2.2.1]
      refine w_if_eq (tgt := 198) dX7_parse_153 (by decide) (fun c_153 => ?_) (fun c_153 => absurd (rfl) c_153)
      exact w_lv [0, 1, 2, 3] t9
    · have hPk := hQok P rfl
      obtain ⟨g1, g2⟩ := h3
      obtain ⟨a1, a2, a3, a4, a5, a6, a7, a8, a9⟩ := h1
      obtain ⟨b1, b2, b3⟩ := h2
      obtain ⟨p1, p2, p3, p4, p5, p6, p7⟩ := g2
      have h6n := hPk.2.1
      obtain ⟨r, r1, r2, r3⟩ := h.2.2.2.2.2.2.1
      have rd2 : rdM I2 r := ⟨by rw [b2 19 (by decide) (by decide) (by decide), a6 19 (by decide) (by decide)]; exact r1, fun v hv => by rw [b1 94 (by decide) (by decide) (by decide) (by decide), a1 94 (by decide) (by decide) (by decide) (by decide)]; exact r3 v hv⟩
      have rusub : ∀ k (hk : k < P.ru.length), ∃ al, mrC I2 k ((fun k => (P.ru.getD k (0, 0, [])).2.1) k) al ∧ (fun k => alS (P.ru.getD k (0, 0, [])).2.2) k = alS al := fun k hk => ⟨P.ru[k].2.2, by show mrC I2 k (P.ru.getD k (0, 0, [])).2.1 _; rw [P.rd_e hk]; exact (p2 k hk).1, by show alS (P.ru.getD k (0, 0, [])).2.2 = _; rw [P.rd_e hk]⟩
      have s173 : ∀ (I3 : Nat → Nat → Int32), frV I2 I3 → vaM I3 (fun k => (P.ru.getD k (0, 0, [])).2.1, fun k => alS (P.ru.getD k (0, 0, [])).2.2, shM P.sh) P.ru.length → (∃ r', r' ≤ r + 1806 ∧ rdM I3 r') → ∀ (f k : Nat) (I' : Nat → Nat → Int32), k + f = 2 → (∀ o, o ≠ 79 → o ≠ 84 → I' o = I3 o) → (∀ j, j ≠ 5 → j ≠ 40 → I' 79 j = I3 79 j) → I' 79 5 = nI 0 → I' 79 40 = 0 → (∀ j, j < k → I' 84 j = 0) → g_Wp E l mX7_parse { frames := 8, cells := 0, slots := 0, locals := 169 } (g_Fin E (g_rj (fun y I' J' => (∀ o, o < 79 → I' o = I o) ∧ I' 79 17 = 0 ∧ (∀ o, o < 79 ∨ 99 < o → J' o = J o) ∧ paP A c y I' (.inr P)) R D N ex) 0 0) 0 0 173 [(4, .int (nI k)), (0, .ref 79), (1, .int (nI L)), (2, .int (I 79 15)), (3, .int (I 79 16))] [] (I', J2, R, D, N, ex) := by
        intro I3 v1 v2 v3 f
        have w15 : I3 79 15 = nI P.ru.length := by rw [v1.2 15 (by decide)]; exact p1
        induction f with
        | zero =>
          intro k I' hk q1 q2 q3 q4 q5
          obtain rfl : k = 2 := by omega
          have fo : ∀ o, o ≠ 79 → o ≠ 80 → o ≠ 81 → (o < 85 ∨ 91 < o) → o ≠ 84 → o ≠ 94 → o ≠ 95 → o ≠ 97 → I' o = I o := fun o x y z w u t s r => by rw [q1 o x u, v1.1 o x (by omega) t s, b1 o x y (by omega) r, a1 o x y z (by omega)]
          have fin : (∀ o, o < 79 → I' o = I o) ∧ I' 79 17 = 0 ∧ (∀ o, o < 79 ∨ 99 < o → J2 o = J o) ∧ paP A c (nI P.ru.length) I' (.inr P) := by
            refine ⟨fun o ho => fo o (by omega) (by omega) (by omega) (by omega) (by omega) (by omega) (by omega) (by omega), by rw [q2 17 (by decide) (by decide), v1.2 17 (by decide), b2 17 (by decide) (by decide) (by decide)]; exact a7.2.2.1, fun o ho => by rw [b3 o (by omega) (by omega), a9 o (by omega)], rfl, fun ru hru => ?_⟩
            have e1 : ∀ k, k < P.ru.length → ru.1 k = (P.ru.getD k (0, 0, [])).2.1 ∧ ru.2.1 k = alS (P.ru.getD k (0, 0, [])).2.2 := fun k hk => by
              rw [P.rd_e hk]
              exact ⟨(hru.2 k hk).1, funext (fun a => (hru.2 k hk).2 a)⟩
            obtain ⟨r', w1, w2⟩ := v3
            refine ⟨p4.fr (by rw [q1 80 (by decide) (by decide), v1.1 80 (by decide) (by decide) (by decide) (by decide)]), ⟨Nat.zero_le _, q3, fun i hi => absurd hi (Nat.not_lt_zero i)⟩, fun k hk => ⟨q5 k hk, fun s hs => by cases hs⟩, ⟨by rw [q2 15 (by decide) (by decide)]; exact w15, fun k hk => ?_, by rw [q2 16 (by decide) (by decide), v1.2 16 (by decide), p3]; exact congrArg nI hru.1.symm⟩, ⟨fun k hk i hi => ?_, fun k hk n hn => ?_⟩, ⟨by rw [q2 22 (by decide) (by decide), v1.2 22 (by decide), b2 22 (by decide) (by decide) (by decide)]; exact a7.2.2.2.1, fun i hi => absurd hi (Nat.not_lt_zero i)⟩, ⟨r', by rw [q2 19 (by decide) (by decide)]; exact w2.1, by omega, fun v hv => by rw [q1 94 (by decide) (by decide)]; exact w2.2 v hv⟩, Or.inl q4⟩
            · have hk' : k < P.ru.length := hk
              refine ⟨P.ru[k].2.2, ?_, ?_⟩
              · show mrC I' k (ru.1 k) _
                rw [(hru.2 k hk').1]
                exact (p2 k hk').1.fr (fun o x y => by rw [q1 o (by omega) (by omega), v1.1 o (by omega) (by omega) (by omega) (by omega)])
              · exact funext (fun a => (hru.2 k hk').2 a)
            · have hk' : k < P.ru.length := hk
              rw [q1 91 (by decide) (by decide), v2.1 k hk' i hi]
              show nI (gv _ _ i) = nI (gv (ru.1 k) (ru.2.1 k) i)
              rw [(e1 k hk').1, (e1 k hk').2]
            · have hk' : k < P.ru.length := hk
              rw [q1 95 (by decide) (by decide)]
              show ∃ x, x < 65536 ∧ _ ∧ ∀ a, 1 ≤ a → a ≤ n → x.testBit a = okA (ru.1 k) (ru.2.1 k) n a
              rw [(e1 k hk').1, (e1 k hk').2]
              exact v2.2 k hk' n hn
          refine w_iload dX7_parse_173 rfl ?_
          refine w_iconst (v := 2) dX7_parse_175 (by decide) ?_
          refine w_icmp_ge (tgt := 193) dX7_parse_176 (by decide) (fun c_176 => ?_) (fun c_176 => absurd ((by decide)) c_176)
          refine w_aload_n dX7_parse_193 rfl ?_
          refine x_geti (ci := 7) (k := 15) dX7_parse_194 rfl (by decide) (by decide) (by omega) fl_X7_98 rfl ?_
          rw [q2 15 (by decide) (by decide), w15]
          refine w_iret dX7_parse_197 rfl rfl ⟨_, _, _, rfl, fin, rfl⟩ (by decide) (by decide)
        | succ f ih =>
          intro k I' hk q1 q2 q3 q4 q5
          refine w_iload dX7_parse_173 rfl ?_
          refine w_iconst (v := 2) dX7_parse_175 (by decide) ?_
          refine w_icmp_ge (tgt := 193) dX7_parse_176 (by decide) (fun c_176 => absurd c_176 ((nI_ge (a := k) (b := 2) (by omega) (by omega)))) (fun c_176 => ?_)
          refine w_aload_n dX7_parse_179 rfl ?_
          refine x_getr (ci := 7) (k := 4) (a := 84) dX7_parse_180 rfl (by decide) (by decide) (by omega) fl_X7_22 (Or.inr ⟨_, rfl⟩) hR.2.2.2.2.2.1 ?_
          refine w_iload dX7_parse_183 rfl ?_
          refine w_iconst (v := 0) dX7_parse_185 (by decide) ?_
          refine x_zast (j := k) dX7_parse_186 rfl (by omega) rfl (show k < 2 by omega) (by decide) ?_
          refine w_iinc (v := nI (k + 1)) dX7_parse_187 rfl (nI_inc _) (by decide) rfl ?_
          refine w_goto (tgt := 173) dX7_parse_190 (by decide) ?_
          refine w_lv [4, 0, 1, 2, 3] (ih (k + 1) _ (by omega) (fun o x y => by rw [← q1 o x y]; funext j; exact up2_n _ _ (by simp [y])) (fun j x y => by rw [up2_n _ _ (by simp)]; exact q2 j x y) (by rw [up2_n _ _ (by simp)]; exact q3) (by rw [up2_n _ _ (by simp)]; exact q4) (fun j hj => ?_))
          rcases Nat.lt_or_ge j k with z | z
          · rw [up2_n _ _ (by omega)]; exact q5 j z
          · obtain rfl : j = k := by omega
            exact up2_s ..
      refine w_aload_n dX7_parse_149 rfl ?_
      refine y_callV dX7_parse_150 lk_X7_161 [] rfl (m_isGood E l hR g1 (by decide)) (g_recv.obj (ci := 7) rfl (by decide) (show 79 < N by omega)) rfl ⟨⟨by decide, by decide⟩, by decide, by decide⟩ (lb rfl) ?_
      refine w_if_eq (tgt := 198) dX7_parse_153 (by decide) (fun c_153 => absurd c_153 ((by decide))) (fun c_153 => ?_)
      refine w_aload_n dX7_parse_156 rfl ?_
      refine u_callV dX7_parse_157 lk_X7_265 [] rfl (m_laysValues E l hR (ru := (fun k => (P.ru.getD k (0, 0, [])).2.1, fun k => alS (P.ru.getD k (0, 0, [])).2.2, shM P.sh)) p1 h6n rusub rd2 (by omega)) (g_recv.obj (ci := 7) rfl (by decide) (show 79 < N by omega)) rfl ⟨⟨by decide, by decide⟩, by decide, by decide⟩ (lb rfl) (fun I3 h_157 => ?_)
      obtain ⟨v1, v2, v3⟩ := h_157
      refine w_aload_n dX7_parse_160 rfl ?_
      refine w_iconst (v := 0) dX7_parse_161 (by decide) ?_
      refine x_putz (ci := 7) (k := 40) dX7_parse_162 rfl (by decide) (by decide) (by omega) fl_X7_268 rfl rfl (by decide) ?_
      refine w_aload_n dX7_parse_165 rfl ?_
      refine w_iconst (v := 0) dX7_parse_166 (by decide) ?_
      refine x_puti (ci := 7) (k := 5) dX7_parse_167 rfl (by decide) (by decide) (by omega) fl_X7_271 rfl rfl ?_
      refine w_iconst (v := 0) dX7_parse_170 (by decide) ?_
      refine w_istore dX7_parse_171 (by decide) rfl ?_
      exact w_lv [4, 0, 1, 2, 3] (s173 I3 v1 v2 v3 2 0 _ (by omega) (fun o x y => by funext j; rw [up2_n _ _ (by simp [x]), up2_n _ _ (by simp [x])]) (fun j x y => by rw [up2_n _ _ (by simp [x]), up2_n _ _ (by simp [y])]) (up2_s ..) (by rw [up2_n _ _ (by simp), up2_s]) (fun j hj => absurd hj (Nat.not_lt_zero j)))
  have bad : ∀ (I1 I2 : Nat → Nat → Int32) (J1 J2 : Nat → Nat → Int64) (q : Nat × Nat), rd0 I J L 172 I1 J1 → frW I1 I2 J1 J2 → (I2 79 28 = nI q.2 ∧ I2 79 29 = nI q.1 ∧ q.2 ≠ 0 ∧ q.2 ≤ 5) → Q = .inl q → g_Wp E l mX7_parse { frames := 8, cells := 0, slots := 0, locals := 169 } (g_Fin E (g_rj (fun y I' J' => (∀ o, o < 79 → I' o = I o) ∧ I' 79 17 = 0 ∧ (∀ o, o < 79 ∨ 99 < o → J' o = J o) ∧ paP A c y I' Q) R D N ex) 0 0) 0 0 128 [(0, .ref 79), (1, .int (nI L)), (2, .int (I 79 15)), (3, .int (I 79 16))] [] (I2, J2, R, D, N, ex) := by
    intro I1 I2 J1 J2 q h1 h2 h3 hq
    refine w_aload_n dX7_parse_128 rfl ?_
    refine y_callV dX7_parse_129 lk_X7_161 [] rfl (m_isGood E l hR h3.1 h3.2.2.2) (g_recv.obj (ci := 7) rfl (by decide) (show 79 < N by omega)) rfl ⟨⟨by decide, by decide⟩, by decide, by decide⟩ (lb rfl) ?_
    rw [decide_eq_false h3.2.2.1]
    refine w_if_eq (tgt := 149) dX7_parse_132 (by decide) (fun c_132 => ?_) (fun c_132 => absurd (rfl) c_132)
    exact w_lv [0, 1, 2, 3] (s149 I1 I2 J1 J2 h1 (by rw [hq]; exact ⟨h2, h3⟩))
  have s128 : ∀ (I1 : Nat → Nat → Int32) (J1 : Nat → Nat → Int64), rd0 I J L 172 I1 J1 → mtx I1 A.tx L → ∀ (f a : Nat) (P : PS) (I2 : Nat → Nat → Int32) (J2 : Nat → Nat → Int64), rdTx A.tx L f a P = Q → L - a < f → a ≤ L → frW I1 I2 J1 J2 → I2 79 28 = nI 0 → mtC I2 J2 A.tx L a → pmC I2 J2 P → psOK P → g_Wp E l mX7_parse { frames := 8, cells := 0, slots := 0, locals := 169 } (g_Fin E (g_rj (fun y I' J' => (∀ o, o < 79 → I' o = I o) ∧ I' 79 17 = 0 ∧ (∀ o, o < 79 ∨ 99 < o → J' o = J o) ∧ paP A c y I' Q) R D N ex) 0 0) 0 0 128 [(0, .ref 79), (1, .int (nI L)), (2, .int (I 79 15)), (3, .int (I 79 16))] [] (I2, J2, R, D, N, ex) := by
    intro I1 J1 h1 hx f
    induction f with
    | zero => intro a P I2 J2 _ hf; omega
    | succ f ih =>
      intro a P I2 J2 hq hf ha f1 g1 g2 g3 hP
      rw [rdTx_st] at hq
      have hmk := mtk_le A.tx L a
      by_cases h0 : tkK A.tx L a = 0
      · rw [if_pos h0] at hq
        refine w_aload_n dX7_parse_128 rfl ?_
        refine y_callV dX7_parse_129 lk_X7_161 [] rfl (m_isGood E l hR g1 (by decide)) (g_recv.obj (ci := 7) rfl (by decide) (show 79 < N by omega)) rfl ⟨⟨by decide, by decide⟩, by decide, by decide⟩ (lb rfl) ?_
        refine w_if_eq (tgt := 149) dX7_parse_132 (by decide) (fun c_132 => absurd c_132 ((by decide))) (fun c_132 => ?_)
        refine w_aload_n dX7_parse_135 rfl ?_
        refine x_geti (ci := 7) (k := 26) dX7_parse_136 rfl (by decide) (by decide) (by omega) fl_X7_143 rfl ?_
        rw [g2.2.2.1, mtk_0.mpr h0]
        refine w_if_eq (tgt := 149) dX7_parse_139 (by decide) (fun c_139 => ?_) (fun c_139 => absurd (rfl) c_139)
        exact w_lv [0, 1, 2, 3] (s149 I1 I2 J1 J2 h1 (by rw [← hq]; exact ⟨f1, g1, g3⟩))
      · rw [if_neg h0] at hq
        have hsok : ∀ q, rdStM A.tx L a P = .inr q → psOK q.1 ∧ a < q.2 ∧ q.2 ≤ L := fun q => rdStM_ok ha hP
        generalize hS : rdStM A.tx L a P = S at hq hsok
        refine w_aload_n dX7_parse_128 rfl ?_
        refine y_callV dX7_parse_129 lk_X7_161 [] rfl (m_isGood E l hR g1 (by decide)) (g_recv.obj (ci := 7) rfl (by decide) (show 79 < N by omega)) rfl ⟨⟨by decide, by decide⟩, by decide, by decide⟩ (lb rfl) ?_
        refine w_if_eq (tgt := 149) dX7_parse_132 (by decide) (fun c_132 => absurd c_132 ((by decide))) (fun c_132 => ?_)
        refine w_aload_n dX7_parse_135 rfl ?_
        refine x_geti (ci := 7) (k := 26) dX7_parse_136 rfl (by decide) (by decide) (by omega) fl_X7_143 rfl ?_
        rw [g2.2.2.1]
        refine w_if_eq (tgt := 149) dX7_parse_139 (by decide) (fun c_139 => absurd c_139 ((fun q => h0 (mtk_0.mp (n_eq (b := 0) q))))) (fun c_139 => ?_)
        refine w_aload_n dX7_parse_142 rfl ?_
        refine k_callV dX7_parse_143 lk_X7_262 [] rfl (m_readsStatement E l hR g1 (hx.w f1) g2 ha g3 hP) (g_recv.obj (ci := 7) rfl (by decide) (show 79 < N by omega)) rfl ⟨⟨by decide, by decide⟩, by decide, by decide⟩ (lb rfl) (fun I3 J3 h_143 => ?_)
        rw [hS] at h_143
        obtain ⟨k1, k2⟩ := h_143
        have f3 := f1.trans k1
        refine w_goto (tgt := 128) dX7_parse_146 (by decide) ?_
        rcases hT : stO A.tx L S with q | q
        · rw [hT] at hq k2
          exact w_lv [0, 1, 2, 3] (bad I1 I3 J1 J3 q h1 f3 k2 hq.symm)
        · rw [hT] at hq k2
          rcases S with z | z
          · cases hT
          · obtain ⟨o1, o2, o3⟩ := hsok z rfl
            have hb9 := tk_b (tx := A.tx) o3
            have hT' : (if tkK A.tx L z.2 ≠ 3 then (.inl (tkS A.tx L z.2, 1) : RdO) else .inr (z.1, tkE A.tx L z.2)) = .inr q := hT
            split at hT'
            · cases hT'
            · cases hT'
              exact w_lv [0, 1, 2, 3] (ih (tkE A.tx L z.2) z.1 I3 J3 hq (by omega) hb9.2.2.2.1 f3 k2.1 k2.2.1 k2.2.2 o1)
  have s102 : ∀ (f k : Nat) (I' : Nat → Nat → Int32) (J' : Nat → Nat → Int64), k + f = 172 → rd0 I J L k I' J' → g_Wp E l mX7_parse { frames := 8, cells := 0, slots := 0, locals := 169 } (g_Fin E (g_rj (fun y I' J' => (∀ o, o < 79 → I' o = I o) ∧ I' 79 17 = 0 ∧ (∀ o, o < 79 ∨ 99 < o → J' o = J o) ∧ paP A c y I' Q) R D N ex) 0 0) 0 0 102 [(4, .int (nI k)), (0, .ref 79), (1, .int (nI L)), (2, .int (I 79 15)), (3, .int (I 79 16))] [] (I', J', R, D, N, ex) := by
    intro f
    induction f with
    | zero =>
      intro k I' J' hk h1
      obtain rfl : k = 172 := by omega
      have hx : mtx I' A.tx L := ⟨h1.2.2.2.2.2.2.1.2.2.2.2.1, by omega, fun i hi => ⟨hA.2.2.2.2.1 i (by omega), by rw [h1.1 96 (by decide) (by decide) (by decide) (by decide)]; exact h.2.2.2.2.2.1.2 i (by omega)⟩⟩
      obtain ⟨a1, a2, a3, a4, a5, a6, ⟨z15, z16, z17, z22, z23, z25, z28, z30, z31, z32⟩, a8, a9⟩ := id h1
      refine w_iload dX7_parse_102 rfl ?_
      refine w_sipush (v := 172) dX7_parse_104 (by decide) ?_
      refine w_icmp_ge (tgt := 124) dX7_parse_107 (by decide) (fun c_107 => ?_) (fun c_107 => absurd ((by decide)) c_107)
      refine w_aload_n dX7_parse_124 rfl ?_
      refine k_callV dX7_parse_125 lk_X7_168 [] rfl (m_nextToken E l hR hx (Nat.zero_le L) z25) (g_recv.obj (ci := 7) rfl (by decide) (show 79 < N by omega)) rfl ⟨⟨by decide, by decide⟩, by decide, by decide⟩ (lb rfl) (fun I2 J2 h_125 => ?_)
      obtain ⟨k1, k2⟩ := h_125
      refine w_lv [0, 1, 2, 3] (s128 I' J' h1 hx (L + 1) 0 PS.nil I2 J2 hQ (by omega) (Nat.zero_le L) k1.u.w (by rw [k1.2.1 28 (by decide)]; exact z28) k2 ⟨by rw [k1.2.1 15 (by decide)]; exact z15, fun k hk => absurd hk (Nat.not_lt_zero k), by rw [k1.2.1 16 (by decide)]; exact z16, ?_, by rw [k1.2.1 30 (by decide)]; exact z30, by rw [k1.2.1 31 (by decide)]; exact z31, by rw [k1.2.1 32 (by decide)]; exact z32⟩ psOK_nil)
      refine slM.fr (I := I') ?_ (k1.1 80 (by decide))
      exact ⟨a8 0 (by decide), fun h hh => absurd hh (Nat.not_lt_zero h), a8 9 (by decide), a8 10 (by decide), a8 11 (by decide), fun i hi => absurd hi (Nat.not_lt_zero i)⟩
    | succ f ih =>
      intro k I' J' hk h1
      refine w_iload dX7_parse_102 rfl ?_
      refine w_sipush (v := 172) dX7_parse_104 (by decide) ?_
      refine w_icmp_ge (tgt := 124) dX7_parse_107 (by decide) (fun c_107 => absurd c_107 ((nI_ge (a := k) (b := 172) (by omega) (by omega)))) (fun c_107 => ?_)
      refine w_aload_n dX7_parse_110 rfl ?_
      refine x_getr (ci := 7) (k := 0) (a := 80) dX7_parse_111 rfl (by decide) (by decide) (by omega) fl_X7_7 (Or.inr ⟨_, rfl⟩) hR.2.1 ?_
      refine w_iload dX7_parse_114 rfl ?_
      refine w_iconst (v := 0) dX7_parse_116 (by decide) ?_
      refine x_iast (j := k) dX7_parse_117 rfl (by omega) rfl (show k < 172 by omega) ?_
      refine w_iinc (v := nI (k + 1)) dX7_parse_118 rfl (nI_inc _) (by decide) rfl ?_
      refine w_goto (tgt := 102) dX7_parse_121 (by decide) ?_
      refine w_lv [4, 0, 1, 2, 3] (ih (k + 1) _ J' (by omega) ?_)
      obtain ⟨a1, a2, a3, a4, a5, a6, a7, a8, a9⟩ := h1
      exact ⟨fun o x y z w => by rw [← a1 o x y z w]; funext j; exact up2_n _ _ (by simp [y]), fun j hj => by rw [up2_n _ _ (by simp)]; exact a2 j hj, fun j hj => by rw [up2_n _ _ (by simp)]; exact a3 j hj, fun j hj => by rw [up2_n _ _ (by simp)]; exact a4 j hj, fun j hj => by rw [up2_n _ _ (by simp)]; exact a5 j hj, fun j x y => by rw [up2_n _ _ (by simp)]; exact a6 j x y, by simp only [up2_n _ _ (show ¬ ((79 : Nat) = 80 ∧ _) from fun q => absurd q.1 (by decide))]; exact a7, fun j hj => by rcases Nat.lt_or_ge j k with z | z; rw [up2_n _ _ (by omega)]; exact a8 j z; (obtain rfl : j = k := by omega); exact up2_s .., a9⟩
  have i15 : up2 I 79 17 0 79 15 = I 79 15 := up2_n _ _ (by simp)
  have i16 : up2 I 79 17 0 79 16 = I 79 16 := up2_n _ _ (by simp)
  refine w_aload_n dX7_parse_0 rfl ?_
  refine w_iconst (v := 0) dX7_parse_1 (by decide) ?_
  refine x_puti (ci := 7) (k := 17) dX7_parse_2 rfl (by decide) (by decide) (by omega) fl_X7_73 rfl rfl ?_
  refine w_aload_n dX7_parse_5 rfl ?_
  refine w_iload_n dX7_parse_6 rfl ?_
  refine w_iconst (v := 0) dX7_parse_7 (by decide) ?_
  refine w_aload_n dX7_parse_8 rfl ?_
  refine x_geti (ci := 7) (k := 22) dX7_parse_9 rfl (by decide) (by decide) (by omega) fl_X7_116 rfl ?_
  rw [h9.2.2.2.2.2.1.1]
  refine y_callS dX7_parse_12 lk_X7_77 [.int (nI L), .int 0, .int (nI A.tl)] rfl (m_within E l _ _ _ _) rfl ⟨⟨by decide, by decide⟩, by decide, by decide⟩ (lb rfl) ?_
  rw [decide_eq_true (show ¬ nI L < 0 ∧ ¬ nI A.tl < nI L from ⟨nI_pos (by omega), nI_nlt (by omega) (by omega)⟩)]
  refine w_iconst (v := 1) dX7_parse_15 (by decide) ?_
  refine y_callV dX7_parse_16 lk_X7_256 [.int 1, .int 1] rfl (m_may_t E l (by omega) z9 1) (g_recv.obj (ci := 7) rfl (by decide) (show 79 < N by omega)) rfl ⟨⟨by decide, by decide⟩, by decide, by decide⟩ (lb rfl) ?_
  refine w_if_ne (tgt := 24) dX7_parse_19 (by decide) (fun c_19 => ?_) (fun c_19 => absurd c_19 ((by decide)))
  refine w_aload_n dX7_parse_24 rfl ?_
  refine x_geti (ci := 7) (k := 15) dX7_parse_25 rfl (by decide) (by decide) (by omega) fl_X7_98 rfl ?_
  rw [i15]
  refine w_istore_n dX7_parse_28 (by decide) rfl ?_
  refine w_aload_n dX7_parse_29 rfl ?_
  refine x_geti (ci := 7) (k := 16) dX7_parse_30 rfl (by decide) (by decide) (by omega) fl_X7_225 rfl ?_
  rw [i16]
  refine w_istore_n dX7_parse_33 (by decide) rfl ?_
  refine w_aload_n dX7_parse_34 rfl ?_
  refine x_getr (ci := 7) (k := 0) (a := 80) dX7_parse_35 rfl (by decide) (by decide) (by omega) fl_X7_7 (Or.inr ⟨_, rfl⟩) hR.2.1 ?_
  refine w_iconst (v := 0) dX7_parse_38 (by decide) ?_
  refine w_aload_n dX7_parse_39 rfl ?_
  refine x_getr (ci := 7) (k := 1) (a := 81) dX7_parse_40 rfl (by decide) (by decide) (by omega) fl_X7_13 (Or.inr ⟨_, rfl⟩) hR.2.2.1 ?_
  refine w_iconst (v := 0) dX7_parse_43 (by decide) ?_
  refine w_sipush (v := 172) dX7_parse_44 (by decide) ?_
  refine z_callS dX7_parse_47 lk_X7_252 [.ref 80, .int (nI 0), .ref 81, .int (nI 0), .int (nI 172)] rfl (m_copies E l (o1 := 80) (o2 := 81) (n1 := 172) (n2 := 172) rfl rfl (by omega) (by omega) (by decide) (by decide) (by decide) (by decide) (by decide)) rfl ⟨⟨by decide, by decide⟩, by decide, by decide⟩ (lb rfl) ?_
  refine w_aload_n dX7_parse_50 rfl ?_
  refine k_callV dX7_parse_51 lk_X7_259 [] rfl (m_laysRulesAside E l hR) (g_recv.obj (ci := 7) rfl (by decide) (show 79 < N by omega)) rfl ⟨⟨by decide, by decide⟩, by decide, by decide⟩ (lb rfl) (fun I2 J2 h_51 => ?_)
  obtain ⟨⟨g1, g2, g3, g4⟩, g5⟩ := h_51
  have co : ∀ o j, o ≠ 81 → o ≠ 79 → cpI (up2 I 79 17 0) 80 0 81 0 172 o j = I o j := fun o j x y => by rw [cp_out (Or.inl x), up2_n _ _ (by simp [y])]
  have c79 : ∀ k, I2 79 k = up2 I 79 17 0 79 k := fun k => by rw [g1 79 (by decide) (by decide) (by decide)]; exact cp_out (Or.inl (by decide))
  refine w_aload_n dX7_parse_54 rfl ?_
  refine w_iload_n dX7_parse_55 rfl ?_
  refine x_puti (ci := 7) (k := 23) dX7_parse_56 rfl (by decide) (by decide) (by omega) fl_X7_119 rfl rfl ?_
  refine w_aload_n dX7_parse_59 rfl ?_
  refine w_iconst (v := 0) dX7_parse_60 (by decide) ?_
  refine x_puti (ci := 7) (k := 22) dX7_parse_61 rfl (by decide) (by decide) (by omega) fl_X7_116 rfl rfl ?_
  refine w_aload_n dX7_parse_64 rfl ?_
  refine w_iconst (v := 0) dX7_parse_65 (by decide) ?_
  refine x_puti (ci := 7) (k := 25) dX7_parse_66 rfl (by decide) (by decide) (by omega) fl_X7_126 rfl rfl ?_
  refine w_aload_n dX7_parse_69 rfl ?_
  refine w_iconst (v := 0) dX7_parse_70 (by decide) ?_
  refine x_puti (ci := 7) (k := 28) dX7_parse_71 rfl (by decide) (by decide) (by omega) fl_X7_158 rfl rfl ?_
  refine w_aload_n dX7_parse_74 rfl ?_
  refine w_iconst (v := 0) dX7_parse_75 (by decide) ?_
  refine x_puti (ci := 7) (k := 15) dX7_parse_76 rfl (by decide) (by decide) (by omega) fl_X7_98 rfl rfl ?_
  refine w_aload_n dX7_parse_79 rfl ?_
  refine w_iconst (v := 0) dX7_parse_80 (by decide) ?_
  refine x_puti (ci := 7) (k := 16) dX7_parse_81 rfl (by decide) (by decide) (by omega) fl_X7_225 rfl rfl ?_
  refine w_aload_n dX7_parse_84 rfl ?_
  refine w_iconst (v := 0) dX7_parse_85 (by decide) ?_
  refine x_putz (ci := 7) (k := 30) dX7_parse_86 rfl (by decide) (by decide) (by omega) fl_X7_221 rfl rfl (by decide) ?_
  refine w_aload_n dX7_parse_89 rfl ?_
  refine w_iconst (v := 0) dX7_parse_90 (by decide) ?_
  refine x_putz (ci := 7) (k := 31) dX7_parse_91 rfl (by decide) (by decide) (by omega) fl_X7_244 rfl rfl (by decide) ?_
  refine w_aload_n dX7_parse_94 rfl ?_
  refine w_iconst (v := 0) dX7_parse_95 (by decide) ?_
  refine x_putz (ci := 7) (k := 32) dX7_parse_96 rfl (by decide) (by decide) (by omega) fl_X7_249 rfl rfl (by decide) ?_
  refine w_iconst (v := 0) dX7_parse_99 (by decide) ?_
  refine w_istore dX7_parse_100 (by decide) rfl ?_
  refine w_lv [4, 0, 1, 2, 3] (s102 172 0 _ J2 (by omega) ⟨fun o x y z w => ?_, fun j hj => ?_, fun j hj => ?_, fun j hj => ?_, fun j hj => ?_, fun k x y => ?_, ?_, fun j hj => absurd hj (Nat.not_lt_zero j), g5⟩)
  · funext j; simp only [up2_n _ _ (show ¬ (o = 79 ∧ _) from fun q => x q.1)]; rw [g1 o (by omega) (by omega) (by omega)]; exact co o j z x
  · simp only [up2_n _ _ (show ¬ ((81 : Nat) = 79 ∧ _) from fun q => absurd q.1 (by decide))]; rw [g1 81 (by decide) (by decide) (by decide), cp_0 hj]; exact up2_n _ _ (by simp)
  · simp only [up2_n _ _ (show ¬ ((88 : Nat) = 79 ∧ _) from fun q => absurd q.1 (by decide))]; exact (g2 j hj).trans (co _ _ (by decide) (by decide))
  · simp only [up2_n _ _ (show ¬ ((89 : Nat) = 79 ∧ _) from fun q => absurd q.1 (by decide))]; exact (g3 j hj).trans (co _ _ (by decide) (by decide))
  · simp only [up2_n _ _ (show ¬ ((90 : Nat) = 79 ∧ _) from fun q => absurd q.1 (by decide))]; exact (g4 j hj).trans (co _ _ (by decide) (by decide))
  · rw [up2_n _ _ (by omega), up2_n _ _ (by omega), up2_n _ _ (by omega), up2_n _ _ (by omega), up2_n _ _ (by omega), up2_n _ _ (by omega), up2_n _ _ (by omega), up2_n _ _ (by omega), up2_n _ _ (by omega), c79]; exact up2_n _ _ (by omega)
  · refine ⟨rfl, rfl, ?_, rfl, rfl, rfl, rfl, rfl, rfl, rfl⟩
    exact (c79 17).trans (up2_s ..)
end MF2
