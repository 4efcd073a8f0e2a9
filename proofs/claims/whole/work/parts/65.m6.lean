/-! HeapGamesModel.goesOn, periodOf, startOf -/
theorem downL_iff {e : Nat → Bool} : ∀ {n m : Nat}, m ≤ n → (downL e n ≤ m ↔ ∀ i, m ≤ i → i < n → e i = true)
  | 0, m, _ => by
    constructor
    · intro _ i _ h; exact absurd h (Nat.not_lt_zero i)
    · intro _; exact Nat.zero_le m
  | n + 1, m, hm => by
    rw [downL]
    cases hb : e n with
    | true =>
      rw [if_pos rfl]
      rcases Nat.lt_or_ge n m with z | z
      · have h := downL_le e n
        constructor
        · intro _ i h1 h2; omega
        · intro _; omega
      · rw [downL_iff z]
        constructor
        · intro h i h1 h2
          rcases Nat.lt_or_ge i n with y | y
          · exact h i h1 y
          · obtain rfl : i = n := by omega
            exact hb
        · intro h i h1 h2; exact h i h1 (by omega)
    | false =>
      rw [if_neg (by decide)]
      constructor
      · intro h i h1 h2; omega
      · intro h
        rcases Nat.lt_or_ge n m with z | z
        · exact z
        · have := h n z (by omega)
          rw [hb] at this
          cases this
def stepB (f : Nat → Int32) (p : Nat) (i : Nat) : Bool := decide (f i = f (i + p))
section M7
variable (E : GE) (l : Launch)
variable {I : Nat → Nat → Int32} {J : Nat → Nat → Int64} {R : Nat → Nat → Option Nat} {D : Nat → Nat → UInt64} {N : Nat} {ex : Bool}
set_option maxRecDepth 100000 in
theorem m_goesOn (hR : lkM R N) {r : Nat} (hr : r < 6) {f : Nat → Int32} (hf : ∀ i, i < 301 → I 91 (301 * r + i) = f i) {p s u : Nat} (hp : p ≤ u + 1) (hs : s ≤ u + 1 - p) (hu : u < 301) : g_Ct E l mX7_goesOn 1 22 0 0 [.ref 79, .int (nI r), .int (nI p), .int (nI s), .int (nI u)] (I, J, R, D, N, ex) (g_is (some (.int (b2i (decide (stOf f p u ≤ s))))) (I, J, R, D, N, ex)) := by
  refine g_Ct.of (by decide +kernel) (lb rfl) ?_
  have hN := hR.1
  have hR12 := hR.2.2.2.2.2.2.2.2.2.2.2.2.1
  have hiff : stOf f p u ≤ s ↔ ∀ i, s ≤ i → i < u + 1 - p → stepB f p i = true := downL_iff hs
  have loop : ∀ g i : Nat, i + g = u + 1 - p → s ≤ i → (∀ j, s ≤ j → j < i → stepB f p j = true) → g_Wp E l mX7_goesOn { frames := 1, cells := 0, slots := 0, locals := 22 } (g_Fin E (g_is (some (.int (b2i (decide (stOf f p u ≤ s))))) (I, J, R, D, N, ex)) 0 0) 0 0 3 [(5, .int (nI i)), (0, .ref 79), (1, .int (nI r)), (2, .int (nI p)), (4, .int (nI u))] [] (I, J, R, D, N, ex) := by
    intro g
    induction g with
    | zero =>
      intro i hi hsi hj
      obtain rfl : i = u + 1 - p := by omega
      refine w_iload dX7_goesOn_3 rfl ?_
      refine w_iload_n dX7_goesOn_5 rfl ?_
      refine w_iadd dX7_goesOn_6 ?_
      rw [nI_add]
      refine w_iload dX7_goesOn_7 rfl ?_
      refine w_icmp_gt (tgt := 39) dX7_goesOn_9 (by decide) (fun c_9 => ?_) (fun c_9 => absurd ((nI_lt (by omega) (by omega))) c_9)
      refine w_iconst (v := 1) dX7_goesOn_39 (by decide) ?_
      refine w_iret dX7_goesOn_40 rfl (by rfl) ⟨rt_t (decide_eq_true (hiff.mpr hj)), rfl⟩ (by decide) (by decide)
    | succ g ih =>
      intro i hi hsi hj
      refine w_iload dX7_goesOn_3 rfl ?_
      refine w_iload_n dX7_goesOn_5 rfl ?_
      refine w_iadd dX7_goesOn_6 ?_
      rw [nI_add]
      refine w_iload dX7_goesOn_7 rfl ?_
      refine w_icmp_gt (tgt := 39) dX7_goesOn_9 (by decide) (fun c_9 => absurd c_9 ((nI_nlt (by omega) (by omega)))) (fun c_9 => ?_)
      refine w_aload_n dX7_goesOn_12 rfl ?_
      refine w_iload_n dX7_goesOn_13 rfl ?_
      refine w_iload dX7_goesOn_14 rfl ?_
      refine y_callV dX7_goesOn_16 lk_X7_101 [.int (nI r), .int (nI i)] rfl (m_valueOf E l hN hR12 hr (by omega)) (g_recv.obj (ci := 7) rfl (by decide) (show 79 < N by omega)) rfl ⟨⟨by decide, by decide⟩, by decide, by decide⟩ (lb rfl) ?_
      rw [hf i (by omega)]
      refine w_aload_n dX7_goesOn_19 rfl ?_
      refine w_iload_n dX7_goesOn_20 rfl ?_
      refine w_iload dX7_goesOn_21 rfl ?_
      refine w_iload_n dX7_goesOn_23 rfl ?_
      refine w_iadd dX7_goesOn_24 ?_
      rw [nI_add]
      refine y_callV dX7_goesOn_25 lk_X7_101 [.int (nI r), .int (nI (i + p))] rfl (m_valueOf E l hN hR12 hr (by omega)) (g_recv.obj (ci := 7) rfl (by decide) (show 79 < N by omega)) rfl ⟨⟨by decide, by decide⟩, by decide, by decide⟩ (lb rfl) ?_
      rw [hf (i + p) (by omega)]
      refine w_icmp_eq (tgt := 33) dX7_goesOn_28 (by decide) (fun c_28 => ?_) (fun c_28 => ?_)
      · refine w_iinc (v := nI (i + 1)) dX7_goesOn_33 rfl (nI_inc _) (by decide) rfl ?_
        refine w_goto (tgt := 3) dX7_goesOn_36 (by decide) ?_
        exact w_lv [5, 0, 1, 2, 4] (ih (i + 1) (by omega) (by omega) (fun j h1 h2 => by rcases Nat.lt_or_ge j i with z | z; exact hj j h1 z; (obtain rfl : j = i := by omega); exact decide_eq_true c_28))
      · refine w_iconst (v := 0) dX7_goesOn_31 (by decide) ?_
        refine w_iret dX7_goesOn_32 rfl (by rfl) ⟨rt_f (decide_eq_false (fun q => by have := hiff.mp q i hsi (by omega); exact c_28 (of_decide_eq_true this))), rfl⟩ (by decide) (by decide)
  refine w_iload_n dX7_goesOn_0 rfl ?_
  refine w_istore dX7_goesOn_1 (by decide) rfl ?_
  exact w_lv [5, 0, 1, 2, 4] (loop (u + 1 - p - s) s (by omega) (Nat.le_refl _) (fun j h1 h2 => by omega))
end M7
