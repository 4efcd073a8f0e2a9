/-! HeapGamesModel: rules -/
def lkM (R : Nat → Nat → Option Nat) (N : Nat) : Prop := 100 ≤ N ∧ R 79 0 = some 80 ∧ R 79 1 = some 81 ∧ R 79 2 = some 82 ∧ R 79 3 = some 83 ∧ R 79 4 = some 84 ∧ R 79 6 = some 85 ∧ R 79 7 = some 86 ∧ R 79 8 = some 87 ∧ R 79 9 = some 88 ∧ R 79 10 = some 89 ∧ R 79 11 = some 90 ∧ R 79 12 = some 91 ∧ R 79 13 = some 92 ∧ R 79 14 = some 93 ∧ R 79 18 = some 94 ∧ R 79 20 = some 95 ∧ R 79 21 = some 96 ∧ R 79 34 = some 97 ∧ R 79 36 = some 98 ∧ R 79 37 = some 99
/-- a rule of the model: its kind, its amounts as they were told -/
def mrC (I : Nat → Nat → Int32) (r k : Nat) (al : List Nat) : Prop := I 85 r = nI k ∧ k ≤ 4 ∧ I 86 r = nI al.length ∧ al.length ≤ 8 ∧ (∀ j (h : j < al.length), I 87 (8 * r + j) = nI al[j]) ∧ ∀ a ∈ al, a ≤ 60
def alS (al : List Nat) (a : Nat) : Bool := decide (a ∈ al)
section M5
variable (E : GE) (l : Launch)
variable {I : Nat → Nat → Int32} {J : Nat → Nat → Int64} {R : Nat → Nat → Option Nat} {D : Nat → Nat → UInt64} {N : Nat} {ex : Bool}
set_option maxRecDepth 100000 in
theorem m_isOfSet (hR : lkM R N) {r k : Nat} {al : List Nat} (hr : r < 6) (hm : mrC I r k al) {a : Nat} (ha : a < 1000) : g_Ct E l mX7_isOfSet 0 0 0 0 [.ref 79, .int (nI r), .int (nI a)] (I, J, R, D, N, ex) (g_is (some (.int (b2i (alS al a)))) (I, J, R, D, N, ex)) := by
  refine g_Ct.of (by decide +kernel) (lb rfl) ?_
  have hN := hR.1
  obtain ⟨m1, m2, m3, m4, m5, m6⟩ := hm
  have loop : ∀ f j : Nat, j + f = al.length → (∀ i (h : i < al.length), i < j → al[i] ≠ a) → g_Wp E l mX7_isOfSet { frames := 0, cells := 0, slots := 0, locals := 0 } (g_Fin E (g_is (some (.int (b2i (alS al a)))) (I, J, R, D, N, ex)) 0 0) 0 0 2 [(3, .int (nI j)), (0, .ref 79), (1, .int (nI r)), (2, .int (nI a))] [] (I, J, R, D, N, ex) := by
    intro f
    induction f with
    | zero =>
      intro j hj hs
      obtain rfl : j = al.length := by omega
      refine w_iload_n dX7_isOfSet_2 rfl ?_
      refine w_aload_n dX7_isOfSet_3 rfl ?_
      refine x_getr (ci := 7) (k := 7) (a := 86) dX7_isOfSet_4 rfl (by decide) (by decide) (by omega) fl_X7_29 (Or.inr ⟨_, rfl⟩) hR.2.2.2.2.2.2.2.1 ?_
      refine w_iload_n dX7_isOfSet_7 rfl ?_
      refine x_iald (j := r) dX7_isOfSet_8 rfl (by omega) rfl (show r < 6 from hr) ?_
      rw [m3]
      refine w_icmp_ge (tgt := 35) dX7_isOfSet_9 (by decide) (fun c_9 => ?_) (fun c_9 => absurd ((nI_le (by omega) (by omega))) c_9)
      refine w_iconst (v := 0) dX7_isOfSet_35 (by decide) ?_
      refine w_iret dX7_isOfSet_36 rfl (by rfl) ⟨rt_f (decide_eq_false (fun q => by obtain ⟨i, hi, e⟩ := List.getElem_of_mem q; exact hs i hi hi e)), rfl⟩ (by decide) (by decide)
    | succ f ih =>
      intro j hj hs
      have hjl : j < al.length := by omega
      have h60 := m6 _ (List.getElem_mem hjl)
      refine w_iload_n dX7_isOfSet_2 rfl ?_
      refine w_aload_n dX7_isOfSet_3 rfl ?_
      refine x_getr (ci := 7) (k := 7) (a := 86) dX7_isOfSet_4 rfl (by decide) (by decide) (by omega) fl_X7_29 (Or.inr ⟨_, rfl⟩) hR.2.2.2.2.2.2.2.1 ?_
      refine w_iload_n dX7_isOfSet_7 rfl ?_
      refine x_iald (j := r) dX7_isOfSet_8 rfl (by omega) rfl (show r < 6 from hr) ?_
      rw [m3]
      refine w_icmp_ge (tgt := 35) dX7_isOfSet_9 (by decide) (fun c_9 => absurd c_9 ((nI_ge (by omega) (by omega)))) (fun c_9 => ?_)
      refine w_aload_n dX7_isOfSet_12 rfl ?_
      refine x_getr (ci := 7) (k := 8) (a := 87) dX7_isOfSet_13 rfl (by decide) (by decide) (by omega) fl_X7_32 (Or.inr ⟨_, rfl⟩) hR.2.2.2.2.2.2.2.2.1 ?_
      refine w_bipush (v := 8) dX7_isOfSet_16 (by decide) ?_
      refine w_iload_n dX7_isOfSet_18 rfl ?_
      refine w_imul dX7_isOfSet_19 ?_
      refine w_st (show _ = [.int (nI (8 * r)), .ref 87] from by rw [← pk_mul]; rfl) ?_
      refine w_iload_n dX7_isOfSet_20 rfl ?_
      refine w_iadd dX7_isOfSet_21 ?_
      rw [nI_add]
      refine x_iald (j := 8 * r + j) dX7_isOfSet_22 rfl (by omega) rfl (show 8 * r + j < 48 by omega) ?_
      rw [m5 j hjl]
      refine w_iload_n dX7_isOfSet_23 rfl ?_
      refine w_icmp_ne (tgt := 29) dX7_isOfSet_24 (by decide) (fun c_24 => ?_) (fun c_24 => ?_)
      · refine w_iinc (v := nI (j + 1)) dX7_isOfSet_29 rfl (nI_inc _) (by decide) rfl ?_
        refine w_goto (tgt := 2) dX7_isOfSet_32 (by decide) ?_
        exact w_lv [3, 0, 1, 2] (ih (j + 1) (by omega) (fun i h h9 => by rcases Nat.lt_or_ge i j with z | z; exact hs i h z; (obtain rfl : i = j := by omega); exact n_ne c_24))
      · refine w_iconst (v := 1) dX7_isOfSet_27 (by decide) ?_
        refine w_iret dX7_isOfSet_28 rfl (by rfl) ⟨rt_t (decide_eq_true (by rw [← n_eq c_24]; exact List.getElem_mem hjl)), rfl⟩ (by decide) (by decide)
  refine w_iconst (v := 0) dX7_isOfSet_0 (by decide) ?_
  refine w_istore_n dX7_isOfSet_1 (by decide) rfl ?_
  exact w_lv [3, 0, 1, 2] (loop al.length 0 (by omega) (fun i h h9 => absurd h9 (Nat.not_lt_zero i)))
end M5
