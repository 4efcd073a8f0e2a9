/-! HeapGamesModel: little functions, on -/
section M2
variable (E : GE) (l : Launch)
set_option maxRecDepth 100000 in
theorem m_weight (w : GW) {h : Nat} (hh : h < 7) : g_Ct E l mX7_weight 0 0 0 0 [.int (nI h)] w (g_is (some (.int (nI (2 ^ (4 * h))))) w) := by
  refine g_Ct.of (by decide +kernel) (lb rfl) ?_
  refine w_iconst (v := 1) dX7_weight_0 (by decide) ?_
  refine w_iconst (v := 4) dX7_weight_1 (by decide) ?_
  refine w_iload_n dX7_weight_2 rfl ?_
  refine w_imul dX7_weight_3 ?_
  refine w_ishl dX7_weight_4 ?_
  refine w_iret dX7_weight_5 rfl rfl ⟨rt_i (by rw [show (4 : Int32) * nI h = nI (4 * h) from sh4, show (1 : Int32) = nI 1 from rfl, nx_shl (by omega), Nat.one_mul]), rfl⟩ (by decide) (by decide)
set_option maxRecDepth 100000 in
theorem m_counters (w : GW) {x h : Nat} (hx : x < 2 ^ 31) (hh : h < 4) : g_Ct E l mX7_counters 0 0 0 0 [.int (nI x), .int (nI h)] w (g_is (some (.int (nI (dig x h)))) w) := by
  refine g_Ct.of (by decide +kernel) (lb rfl) ?_
  refine w_iload_n dX7_counters_0 rfl ?_
  refine w_iconst (v := 4) dX7_counters_1 (by decide) ?_
  refine w_iload_n dX7_counters_2 rfl ?_
  refine w_imul dX7_counters_3 ?_
  refine w_ishr dX7_counters_4 ?_
  refine w_bipush (v := 15) dX7_counters_5 (by decide) ?_
  refine w_iand dX7_counters_7 ?_
  refine w_iret dX7_counters_8 rfl rfl ⟨rt_i (bits_nI hx hh), rfl⟩ (by decide) (by decide)
set_option maxRecDepth 100000 in
theorem m_isLetter (w : GW) (x : Int32) : g_Ct E l mX7_isLetter 0 0 0 0 [.int x] w (g_is (some (.int (b2i (decide (¬ x < 97 ∧ ¬ 122 < x))))) w) := by
  refine g_Ct.of (by decide +kernel) (lb rfl) ?_
  refine w_iload_n dX7_isLetter_0 rfl ?_
  refine w_bipush (v := 97) dX7_isLetter_1 (by decide) ?_
  refine w_icmp_lt (tgt := 16) dX7_isLetter_3 (by decide) (fun c_3 => ?_) (fun c_3 => ?_)
  · refine w_iconst (v := 0) dX7_isLetter_16 (by decide) ?_
    refine w_iret dX7_isLetter_17 rfl (by rfl) (by first | exact ⟨rt_t (decide_eq_true ⟨c_3, c_9⟩), rfl⟩ | exact ⟨rt_f (decide_eq_false (fun q => q.2 c_9)), rfl⟩ | exact ⟨rt_f (decide_eq_false (fun q => q.1 c_3)), rfl⟩) (by decide) (by decide)
  · refine w_iload_n dX7_isLetter_6 rfl ?_
    refine w_bipush (v := 122) dX7_isLetter_7 (by decide) ?_
    refine w_icmp_gt (tgt := 16) dX7_isLetter_9 (by decide) (fun c_9 => ?_) (fun c_9 => ?_)
    · refine w_iconst (v := 0) dX7_isLetter_16 (by decide) ?_
      refine w_iret dX7_isLetter_17 rfl (by rfl) (by first | exact ⟨rt_t (decide_eq_true ⟨c_3, c_9⟩), rfl⟩ | exact ⟨rt_f (decide_eq_false (fun q => q.2 c_9)), rfl⟩ | exact ⟨rt_f (decide_eq_false (fun q => q.1 c_3)), rfl⟩) (by decide) (by decide)
    · refine w_iconst (v := 1) dX7_isLetter_12 (by decide) ?_
      refine w_goto (tgt := 17) dX7_isLetter_13 (by decide) ?_
      refine w_iret dX7_isLetter_17 rfl (by rfl) (by first | exact ⟨rt_t (decide_eq_true ⟨c_3, c_9⟩), rfl⟩ | exact ⟨rt_f (decide_eq_false (fun q => q.2 c_9)), rfl⟩ | exact ⟨rt_f (decide_eq_false (fun q => q.1 c_3)), rfl⟩) (by decide) (by decide)
set_option maxRecDepth 100000 in
theorem m_isDigit (w : GW) (x : Int32) : g_Ct E l mX7_isDigit 0 0 0 0 [.int x] w (g_is (some (.int (b2i (decide (¬ x < 48 ∧ ¬ 57 < x))))) w) := by
  refine g_Ct.of (by decide +kernel) (lb rfl) ?_
  refine w_iload_n dX7_isDigit_0 rfl ?_
  refine w_bipush (v := 48) dX7_isDigit_1 (by decide) ?_
  refine w_icmp_lt (tgt := 16) dX7_isDigit_3 (by decide) (fun c_3 => ?_) (fun c_3 => ?_)
  · refine w_iconst (v := 0) dX7_isDigit_16 (by decide) ?_
    refine w_iret dX7_isDigit_17 rfl (by rfl) (by first | exact ⟨rt_t (decide_eq_true ⟨c_3, c_9⟩), rfl⟩ | exact ⟨rt_f (decide_eq_false (fun q => q.2 c_9)), rfl⟩ | exact ⟨rt_f (decide_eq_false (fun q => q.1 c_3)), rfl⟩) (by decide) (by decide)
  · refine w_iload_n dX7_isDigit_6 rfl ?_
    refine w_bipush (v := 57) dX7_isDigit_7 (by decide) ?_
    refine w_icmp_gt (tgt := 16) dX7_isDigit_9 (by decide) (fun c_9 => ?_) (fun c_9 => ?_)
    · refine w_iconst (v := 0) dX7_isDigit_16 (by decide) ?_
      refine w_iret dX7_isDigit_17 rfl (by rfl) (by first | exact ⟨rt_t (decide_eq_true ⟨c_3, c_9⟩), rfl⟩ | exact ⟨rt_f (decide_eq_false (fun q => q.2 c_9)), rfl⟩ | exact ⟨rt_f (decide_eq_false (fun q => q.1 c_3)), rfl⟩) (by decide) (by decide)
    · refine w_iconst (v := 1) dX7_isDigit_12 (by decide) ?_
      refine w_goto (tgt := 17) dX7_isDigit_13 (by decide) ?_
      refine w_iret dX7_isDigit_17 rfl (by rfl) (by first | exact ⟨rt_t (decide_eq_true ⟨c_3, c_9⟩), rfl⟩ | exact ⟨rt_f (decide_eq_false (fun q => q.2 c_9)), rfl⟩ | exact ⟨rt_f (decide_eq_false (fun q => q.1 c_3)), rfl⟩) (by decide) (by decide)
set_option maxRecDepth 100000 in
theorem m_isPower (w : GW) (a : Nat) : g_Ct E l mX7_isPower 0 0 0 0 [.int (nI a)] w (g_is (some (.int (b2i (isPw a)))) w) := by
  refine g_Ct.of (by decide +kernel) (lb rfl) ?_
  refine w_iload_n dX7_isPower_0 rfl ?_
  refine w_iload_n dX7_isPower_1 rfl ?_
  refine w_iconst (v := 1) dX7_isPower_2 (by decide) ?_
  refine w_isub dX7_isPower_3 ?_
  refine w_iand dX7_isPower_4 ?_
  refine w_if_ne (tgt := 12) dX7_isPower_5 (by decide) (fun c_5 => ?_) (fun c_5 => ?_)
  · refine w_iconst (v := 0) dX7_isPower_12 (by decide) ?_
    refine w_iret dX7_isPower_13 rfl (by rfl) (by first | exact ⟨rt_t (decide_eq_true c_5), rfl⟩ | exact ⟨rt_f (decide_eq_false c_5), rfl⟩) (by decide) (by decide)
  · refine w_iconst (v := 1) dX7_isPower_8 (by decide) ?_
    refine w_goto (tgt := 13) dX7_isPower_9 (by decide) ?_
    refine w_iret dX7_isPower_13 rfl (by rfl) (by first | exact ⟨rt_t (decide_eq_true c_5), rfl⟩ | exact ⟨rt_f (decide_eq_false c_5), rfl⟩) (by decide) (by decide)
theorem sqL_le {a : Nat} : ∀ f r, sqL f r a = true → ∃ s, r ≤ s ∧ s < r + f ∧ s * s = a
  | 0, _, h => by cases h
  | f + 1, r, h => by
    rw [sqL] at h
    split at h
    · cases h
    · split at h
      · exact ⟨r, Nat.le_refl _, by omega, by assumption⟩
      · obtain ⟨s, h1, h2, h3⟩ := sqL_le f (r + 1) h
        exact ⟨s, by omega, by omega, h3⟩
theorem sqL_of {a : Nat} : ∀ f r s, r ≤ s → s < r + f → s * s = a → sqL f r a = true
  | 0, r, s, h1, h2, _ => by omega
  | f + 1, r, s, h1, h2, h3 => by
    rw [sqL]
    have hm : r * r ≤ s * s := Nat.mul_le_mul h1 h1
    rw [if_neg (by omega)]
    split
    · rfl
    · rename_i hne
      have : r ≠ s := fun q => hne (by rw [q]; exact h3)
      exact sqL_of f (r + 1) s (by omega) (by omega) h3
set_option maxRecDepth 100000 in
theorem m_isSquare (w : GW) {a : Nat} (h1 : 1 ≤ a) (ha : a ≤ 300) : g_Ct E l mX7_isSquare 0 0 0 0 [.int (nI a)] w (g_is (some (.int (b2i (sqL 300 1 a)))) w) := by
  refine g_Ct.of (by decide +kernel) (lb rfl) ?_
  have loop : ∀ f r : Nat, r + f = 302 → 1 ≤ r → (∀ s, 1 ≤ s → s < r → s * s < a) → g_Wp E l mX7_isSquare { frames := 0, cells := 0, slots := 0, locals := 0 } (g_Fin E (g_is (some (.int (b2i (sqL 300 1 a)))) w) 0 0) 0 0 2 [(1, .int (nI r)), (0, .int (nI a))] [] w := by
    intro f
    induction f with
    | zero =>
      intro r hr h1r hs
      have := hs 300 (by omega) (by omega)
      omega
    | succ f ih =>
      intro r hr h1r hs
      have hrr : r * r ≤ 302 * 302 := Nat.mul_le_mul (by omega) (by omega)
      have hr300 : r ≤ 300 ∨ 300 < r := by omega
      refine w_iload_n dX7_isSquare_2 rfl ?_
      refine w_iload_n dX7_isSquare_3 rfl ?_
      refine w_imul dX7_isSquare_4 ?_
      rw [pk_mul]
      refine w_iload_n dX7_isSquare_5 rfl ?_
      refine w_icmp_ge (tgt := 15) dX7_isSquare_6 (by decide) (fun c_6 => ?_) (fun c_6 => ?_)
      · refine w_iload_n dX7_isSquare_15 rfl ?_
        refine w_iload_n dX7_isSquare_16 rfl ?_
        refine w_imul dX7_isSquare_17 ?_
        rw [pk_mul]
        refine w_iload_n dX7_isSquare_18 rfl ?_
        refine w_icmp_ne (tgt := 26) dX7_isSquare_19 (by decide) (fun c_19 => ?_) (fun c_19 => ?_)
        · refine w_iconst (v := 0) dX7_isSquare_26 (by decide) ?_
          refine w_iret dX7_isSquare_27 rfl (by rfl) (by first | exact ⟨rt_t (sqL_of 300 1 r h1r (by rcases Nat.lt_or_ge 300 r with z | z; have := hs 300 (by omega) (by omega); omega; omega) (n_eq c_19)), rfl⟩ | exact ⟨rt_f (by rw [← Bool.not_eq_true]; intro q; obtain ⟨s, q1, q2, q3⟩ := sqL_le _ _ q; have h6 := n_le c_6; have h9 := n_ne c_19; rcases Nat.lt_trichotomy s r with z | z | z; have := hs s q1 z; omega; exact h9 (by rw [← z]; exact q3); have := Nat.mul_le_mul (show r + 1 ≤ s from z) (show r + 1 ≤ s from z); rw [Nat.add_mul, Nat.mul_add] at this; omega), rfl⟩) (by decide) (by decide)
        · refine w_iconst (v := 1) dX7_isSquare_22 (by decide) ?_
          refine w_goto (tgt := 27) dX7_isSquare_23 (by decide) ?_
          refine w_iret dX7_isSquare_27 rfl (by rfl) (by first | exact ⟨rt_t (sqL_of 300 1 r h1r (by rcases Nat.lt_or_ge 300 r with z | z; have := hs 300 (by omega) (by omega); omega; omega) (n_eq c_19)), rfl⟩ | exact ⟨rt_f (by rw [← Bool.not_eq_true]; intro q; obtain ⟨s, q1, q2, q3⟩ := sqL_le _ _ q; have h6 := n_le c_6; have h9 := n_ne c_19; rcases Nat.lt_trichotomy s r with z | z | z; have := hs s q1 z; omega; exact h9 (by rw [← z]; exact q3); have := Nat.mul_le_mul (show r + 1 ≤ s from z) (show r + 1 ≤ s from z); rw [Nat.add_mul, Nat.mul_add] at this; omega), rfl⟩) (by decide) (by decide)
      · refine w_iinc (v := nI (r + 1)) dX7_isSquare_9 rfl (nI_inc _) (by decide) rfl ?_
        refine w_goto (tgt := 2) dX7_isSquare_12 (by decide) ?_
        exact w_lv [1, 0] (ih (r + 1) (by omega) (by omega) (fun s h2 h3 => by rcases Nat.lt_or_ge s r with z | z; exact hs s h2 z; (obtain rfl : s = r := by omega); exact n_nle c_6))
  refine w_iconst (v := 1) dX7_isSquare_0 (by decide) ?_
  refine w_istore_n dX7_isSquare_1 (by decide) rfl ?_
  exact w_lv [1, 0] (loop 301 1 (by omega) (by omega) (fun s h2 h3 => by omega))
section M3
variable {I : Nat → Nat → Int32} {J : Nat → Nat → Int64} {R : Nat → Nat → Option Nat} {D : Nat → Nat → UInt64} {N : Nat} {ex : Bool}
set_option maxRecDepth 100000 in
theorem m_thrown (hN : 79 < N) : g_Ct E l mX7_thrown 0 0 0 0 [.ref 79] (I, J, R, D, N, ex) (g_is (some (.int (I 79 17))) (I, J, R, D, N, ex)) := by
  refine g_Ct.of (by decide +kernel) (lb rfl) ?_
  refine w_aload_n dX7_thrown_0 rfl ?_
  refine x_geti (ci := 7) (k := 17) dX7_thrown_1 rfl (by decide) (by decide) hN fl_X7_73 rfl ?_
  refine w_iret dX7_thrown_4 rfl rfl ⟨rfl, rfl⟩ (by decide) (by decide)
/-- may, where nothing is thrown yet -/
def mayI (I : Nat → Nat → Int32) (b : Bool) (k : Int32) : Nat → Nat → Int32 := if b then I else up2 I 79 17 k
set_option maxRecDepth 100000 in
theorem m_may_t (hN : 79 < N) (h0 : I 79 17 = 0) (k : Int32) : g_Ct E l mX7_may 0 0 0 0 [.ref 79, .int 1, .int k] (I, J, R, D, N, ex) (g_is (some (.int (b2i true))) (I, J, R, D, N, ex)) := by
  refine g_Ct.of (by decide +kernel) (lb rfl) ?_
  refine w_iload_n dX7_may_0 rfl ?_
  refine w_if_ne (tgt := 16) dX7_may_1 (by decide) (fun c_1 => ?_) (fun c_1 => absurd c_1 ((show ¬ (1 : Int32) = 0 from by decide)))
  refine w_aload_n dX7_may_16 rfl ?_
  refine x_geti (ci := 7) (k := 17) dX7_may_17 rfl (by decide) (by decide) hN fl_X7_73 rfl ?_
  rw [h0]
  refine w_if_ne (tgt := 27) dX7_may_20 (by decide) (fun c_20 => absurd (rfl) c_20) (fun c_20 => ?_)
  refine w_iconst (v := 1) dX7_may_23 (by decide) ?_
  refine w_goto (tgt := 28) dX7_may_24 (by decide) ?_
  refine w_iret dX7_may_28 rfl rfl ⟨rfl, rfl⟩ (by decide) (by decide)
set_option maxRecDepth 100000 in
theorem m_may_f (hN : 79 < N) (h0 : I 79 17 = 0) {k : Int32} (hk : ¬ k = 0) : g_Ct E l mX7_may 0 0 0 0 [.ref 79, .int 0, .int k] (I, J, R, D, N, ex) (g_is (some (.int (b2i false))) (up2 I 79 17 k, J, R, D, N, ex)) := by
  refine g_Ct.of (by decide +kernel) (lb rfl) ?_
  refine w_iload_n dX7_may_0 rfl ?_
  refine w_if_ne (tgt := 16) dX7_may_1 (by decide) (fun c_1 => absurd (rfl) c_1) (fun c_1 => ?_)
  refine w_aload_n dX7_may_4 rfl ?_
  refine x_geti (ci := 7) (k := 17) dX7_may_5 rfl (by decide) (by decide) hN fl_X7_73 rfl ?_
  rw [h0]
  refine w_if_ne (tgt := 16) dX7_may_8 (by decide) (fun c_8 => absurd (rfl) c_8) (fun c_8 => ?_)
  refine w_aload_n dX7_may_11 rfl ?_
  refine w_iload_n dX7_may_12 rfl ?_
  refine x_puti (ci := 7) (k := 17) dX7_may_13 rfl (by decide) (by decide) hN fl_X7_73 rfl rfl ?_
  refine w_aload_n dX7_may_16 rfl ?_
  refine x_geti (ci := 7) (k := 17) dX7_may_17 rfl (by decide) (by decide) hN fl_X7_73 rfl ?_
  rw [up2_s]
  refine w_if_ne (tgt := 27) dX7_may_20 (by decide) (fun c_20 => ?_) (fun c_20 => absurd c_20 (hk))
  refine w_iconst (v := 0) dX7_may_27 (by decide) ?_
  refine w_iret dX7_may_28 rfl rfl ⟨rfl, rfl⟩ (by decide) (by decide)
end M3
end M2
