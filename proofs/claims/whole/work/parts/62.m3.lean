/-! HeapGamesModel.copies, valueOf -/
def cpI (I : Nat → Nat → Int32) (o1 a o2 b m : Nat) : Nat → Nat → Int32 := fun o k => if o = o2 ∧ b ≤ k ∧ k < b + m then I o1 (a + (k - b)) else I o k
theorem cp_step {I : Nat → Nat → Int32} {o1 a o2 b k : Nat} : up2 (cpI I o1 a o2 b k) o2 (b + k) (I o1 (a + k)) = cpI I o1 a o2 b (k + 1) := by
  funext o j
  show (if o = o2 ∧ j = b + k then I o1 (a + k) else (if o = o2 ∧ b ≤ j ∧ j < b + k then I o1 (a + (j - b)) else I o j)) = (if o = o2 ∧ b ≤ j ∧ j < b + (k + 1) then I o1 (a + (j - b)) else I o j)
  by_cases hx : o = o2
  · by_cases hy : j = b + k
    · rw [if_pos ⟨hx, hy⟩, if_pos ⟨hx, by omega, by omega⟩, show a + (j - b) = a + k by omega]
    · rw [if_neg (fun q => hy q.2)]
      by_cases hz : b ≤ j ∧ j < b + k
      · rw [if_pos ⟨hx, hz.1, hz.2⟩, if_pos ⟨hx, hz.1, by omega⟩]
      · rw [if_neg (fun q => hz q.2), if_neg (fun q => hz ⟨q.2.1, by omega⟩)]
  · rw [if_neg (fun q => hx q.1), if_neg (fun q => hx q.1), if_neg (fun q => hx q.1)]
section M4
variable (E : GE) (l : Launch)
variable {I : Nat → Nat → Int32} {J : Nat → Nat → Int64} {R : Nat → Nat → Option Nat} {D : Nat → Nat → UInt64} {N : Nat} {ex : Bool}
set_option maxRecDepth 100000 in
theorem m_copies {o1 o2 n1 n2 a b m : Nat} (h1 : g_ob o1 = (8, n1)) (h2 : g_ob o2 = (8, n2)) (hn1 : o1 < N) (hn2 : o2 < N) (hne : o1 ≠ o2) (ha : a + m ≤ n1) (hb : b + m ≤ n2) (hn : n1 < 2 ^ 30) (hn' : n2 < 2 ^ 30) : g_Ct E l mX7_copies 0 0 0 0 [.ref o1, .int (nI a), .ref o2, .int (nI b), .int (nI m)] (I, J, R, D, N, ex) (g_is none (cpI I o1 a o2 b m, J, R, D, N, ex)) := by
  refine g_Ct.of (by decide +kernel) (lb rfl) ?_
  have loop : ∀ (f k : Nat) (I' : Nat → Nat → Int32), k + f = m → I' = cpI I o1 a o2 b k → g_Wp E l mX7_copies { frames := 0, cells := 0, slots := 0, locals := 0 } (g_Fin E (g_is none (cpI I o1 a o2 b m, J, R, D, N, ex)) 0 0) 0 0 3 [(5, .int (nI k)), (0, .ref o1), (1, .int (nI a)), (2, .ref o2), (3, .int (nI b)), (4, .int (nI m))] [] (I', J, R, D, N, ex) := by
    intro f
    induction f with
    | zero =>
      intro k I' hk hI
      obtain rfl : k = m := by omega
      refine w_iload dX7_copies_3 rfl ?_
      refine w_iload dX7_copies_5 rfl ?_
      refine w_icmp_ge (tgt := 28) dX7_copies_7 (by decide) (fun c_7 => ?_) (fun c_7 => absurd ((nI_le (by omega) (by omega))) c_7)
      refine w_vret dX7_copies_28 rfl ⟨rfl, by rw [hI]⟩ (by decide) (by decide)
    | succ f ih =>
      intro k I' hk hI
      have e : I' o1 (a + k) = I o1 (a + k) := by rw [hI]; exact if_neg (fun q => hne q.1)
      refine w_iload dX7_copies_3 rfl ?_
      refine w_iload dX7_copies_5 rfl ?_
      refine w_icmp_ge (tgt := 28) dX7_copies_7 (by decide) (fun c_7 => absurd c_7 ((nI_ge (by omega) (by omega)))) (fun c_7 => ?_)
      refine w_aload_n dX7_copies_10 rfl ?_
      refine w_iload_n dX7_copies_11 rfl ?_
      refine w_iload dX7_copies_12 rfl ?_
      refine w_iadd dX7_copies_14 ?_
      rw [nI_add]
      refine w_aload_n dX7_copies_15 rfl ?_
      refine w_iload_n dX7_copies_16 rfl ?_
      refine w_iload dX7_copies_17 rfl ?_
      refine w_iadd dX7_copies_19 ?_
      rw [nI_add]
      refine x_iald (j := a + k) dX7_copies_20 (by rw [h1]) hn1 rfl (by rw [h1]; show a + k < n1; omega) ?_
      rw [e]
      refine x_iast (j := b + k) dX7_copies_21 (by rw [h2]) hn2 rfl (by rw [h2]; show b + k < n2; omega) ?_
      refine w_iinc (v := nI (k + 1)) dX7_copies_22 rfl (nI_inc _) (by decide) rfl ?_
      refine w_goto (tgt := 3) dX7_copies_25 (by decide) ?_
      exact w_lv [5, 0, 1, 2, 3, 4] (ih (k + 1) _ (by omega) (by rw [hI]; exact cp_step))
  refine w_iconst (v := 0) dX7_copies_0 (by decide) ?_
  refine w_istore dX7_copies_1 (by decide) rfl ?_
  refine w_lv [5, 0, 1, 2, 3, 4] (loop m 0 I (by omega) ?_)
  funext o j
  exact (if_neg (fun q => by omega)).symm
set_option maxRecDepth 100000 in
theorem m_valueOf (hN : 100 ≤ N) (hR : R 79 12 = some 91) {r n : Nat} (hr : r < 6) (hn : n < 301) : g_Ct E l mX7_valueOf 0 0 0 0 [.ref 79, .int (nI r), .int (nI n)] (I, J, R, D, N, ex) (g_is (some (.int (I 91 (301 * r + n)))) (I, J, R, D, N, ex)) := by
  refine g_Ct.of (by decide +kernel) (lb rfl) ?_
  refine w_aload_n dX7_valueOf_0 rfl ?_
  refine x_getr (ci := 7) (k := 12) (a := 91) dX7_valueOf_1 rfl (by decide) (by decide) (by omega) fl_X7_44 (Or.inr ⟨_, rfl⟩) hR ?_
  refine w_sipush (v := 301) dX7_valueOf_4 (by decide) ?_
  refine w_iload_n dX7_valueOf_7 rfl ?_
  refine w_imul dX7_valueOf_8 ?_
  refine w_st (show _ = [.int (nI (301 * r)), .ref 91] from by rw [← pk_mul]; rfl) ?_
  refine w_iload_n dX7_valueOf_9 rfl ?_
  refine w_iadd dX7_valueOf_10 ?_
  rw [nI_add]
  refine x_iald (j := 301 * r + n) dX7_valueOf_11 rfl (by omega) rfl (show 301 * r + n < 1806 by omega) ?_
  refine w_iret dX7_valueOf_12 rfl rfl ⟨rfl, rfl⟩ (by decide) (by decide)
end M4
