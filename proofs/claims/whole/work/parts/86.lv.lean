/-! HeapGamesModel.laysValues -/
def frV (I I' : Nat → Nat → Int32) : Prop := (∀ o, o ≠ 79 → o ≠ 91 → o ≠ 94 → o ≠ 95 → I' o = I o) ∧ ∀ k, k ≠ 19 → I' 79 k = I 79 k
theorem frV.trans {I I' I'' : Nat → Nat → Int32} (h : frV I I') (h' : frV I' I'') : frV I I'' := ⟨fun o a b c d => (h'.1 o a b c d).trans (h.1 o a b c d), fun k a => (h'.2 k a).trans (h.2 k a)⟩
theorem frV.refl (I : Nat → Nat → Int32) : frV I I := ⟨fun _ _ _ _ _ => rfl, fun _ _ => rfl⟩
def wyC (I : Nat → Nat → Int32) (ru : Ru) (k n : Nat) : Prop := ∃ x, x < 65536 ∧ I 95 (16 * k + n) = nI x ∧ ∀ a, 1 ≤ a → a ≤ n → x.testBit a = okA (ru.1 k) (ru.2.1 k) n a
theorem hitV_s2 (k : Nat) (S : Nat → Bool) (n j v : Nat) : hitV k S n (j + 1) v = (hitV k S n j v || (okA k S n (j + 1) && decide (gv k S (n - (j + 1)) = v))) := rfl
section LV
variable (E : GE) (l : Launch)
variable {I : Nat → Nat → Int32} {J : Nat → Nat → Int64} {R : Nat → Nat → Option Nat} {D : Nat → Nat → UInt64} {N : Nat} {ex : Bool}
set_option maxRecDepth 100000 in
theorem m_laysValues (hR : lkM R N) {ru : Ru} {nr r : Nat} (hn : I 79 15 = nI nr) (h6 : nr ≤ 6) (hru : ∀ k, k < nr → ∃ al, mrC I k (ru.1 k) al ∧ ru.2.1 k = alS al) (hr : rdM I r) (hr2 : r < 2 ^ 29) : g_Ct E l mX7_laysValues 2 46 0 0 [.ref 79] (I, J, R, D, N, ex) (g_rv (fun I' => frV I I' ∧ vaM I' ru nr ∧ ∃ r', r' ≤ r + 1806 ∧ rdM I' r') J R D N ex) := by
  refine g_Ct.of (by decide +kernel) (lb rfl) ?_
  have hN := hR.1
  have s2 : ∀ (f k : Nat) (I' : Nat → Nat → Int32), k + f = nr → frV I I' → rdM I' (r + 301 * k) → (∀ k', k' < k → ∀ i, i < 301 → I' 91 (301 * k' + i) = vS ru k' i) → (∀ k', k' < k → ∀ n, n < 16 → wyC I' ru k' n) → g_Wp E l mX7_laysValues { frames := 2, cells := 0, slots := 0, locals := 46 } (g_Fin E (g_rv (fun I' => frV I I' ∧ vaM I' ru nr ∧ ∃ r', r' ≤ r + 1806 ∧ rdM I' r') J R D N ex) 0 0) 0 0 2 [(1, .int (nI k)), (0, .ref 79)] [] (I', J, R, D, N, ex) := by
    intro f
    induction f with
    | zero =>
      intro k I' hk g1 g2 g3 g4
      obtain rfl : k = nr := by omega
      refine w_iload_n dX7_laysValues_2 rfl ?_
      refine w_aload_n dX7_laysValues_3 rfl ?_
      refine x_geti (ci := 7) (k := 15) dX7_laysValues_4 rfl (by decide) (by decide) (by omega) fl_X7_98 rfl ?_
      rw [g1.2 15 (by decide), hn]
      refine w_icmp_ge (tgt := 163) dX7_laysValues_7 (by decide) (fun c_7 => ?_) (fun c_7 => absurd ((nI_le (by omega) (by omega))) c_7)
      refine w_vret dX7_laysValues_163 rfl ⟨_, rfl, ⟨g1, ⟨g3, g4⟩, _, by omega, g2⟩, rfl⟩ (by decide) (by decide)
    | succ f ih =>
      intro k I' hk g1 g2 g3 g4
      have hkn : k < nr := by omega
      obtain ⟨al, hm1, hm2⟩ := hru k hkn
      have hmf : ∀ I'', frV I I'' → mrC I'' k (ru.1 k) al := fun I'' g => hm1.fr (fun o a b => g.1 o (by omega) (by omega) (by omega) (by omega))
      have s93 : ∀ (f2 n : Nat) (I' : Nat → Nat → Int32), n + f2 = 16 → frV I I' → rdM I' (r + 301 * k + 301) → (∀ k', k' < k + 1 → ∀ i, i < 301 → I' 91 (301 * k' + i) = vS ru k' i) → (∀ k', k' < k → ∀ n, n < 16 → wyC I' ru k' n) → (∀ n', n' < n → wyC I' ru k n') → g_Wp E l mX7_laysValues { frames := 2, cells := 0, slots := 0, locals := 46 } (g_Fin E (g_rv (fun I' => frV I I' ∧ vaM I' ru nr ∧ ∃ r', r' ≤ r + 1806 ∧ rdM I' r') J R D N ex) 0 0) 0 0 93 [(2, .int (nI n)), (0, .ref 79), (1, .int (nI k))] [] (I', J, R, D, N, ex) := by
        intro f2
        induction f2 with
        | zero =>
          intro n I' hn16 g1 g2 g3 g4 g5
          obtain rfl : n = 16 := by omega
          have t9 := ih (k + 1) I' (by omega) g1 (by rw [show r + 301 * (k + 1) = r + 301 * k + 301 by omega]; exact g2) g3 (fun k' hk' n hn' => by rcases Nat.lt_or_ge k' k with z | z; exact g4 k' z n hn'; (obtain rfl : k' = k := by omega); exact g5 n hn')
          refine w_iload_n dX7_laysValues_93 rfl ?_
          refine w_bipush (v := 15) dX7_laysValues_94 (by decide) ?_
          refine w_icmp_gt (tgt := 157) dX7_laysValues_96 (by decide) (fun c_96 => ?_) (fun c_96 => absurd ((by decide)) c_96)
          refine w_iinc (v := nI (k + 1)) dX7_laysValues_157 rfl (nI_inc _) (by decide) rfl ?_
          refine w_goto (tgt := 2) dX7_laysValues_160 (by decide) ?_
          exact w_lv [1, 0] t9
        | succ f2 ih2 =>
          intro n I' hn16 g1 g2 g3 g4 g5
          have s113 : ∀ (f3 a x : Nat) (I' : Nat → Nat → Int32), a + f3 = n → frV I I' → rdM I' (r + 301 * k + 301) → (∀ k', k' < k + 1 → ∀ i, i < 301 → I' 91 (301 * k' + i) = vS ru k' i) → (∀ k', k' < k → ∀ n, n < 16 → wyC I' ru k' n) → (∀ n', n' < n → wyC I' ru k n') → I' 95 (16 * k + n) = nI x → x < 2 ^ (a + 1) → (∀ a', 1 ≤ a' → a' ≤ a → x.testBit a' = okA (ru.1 k) (ru.2.1 k) n a') → g_Wp E l mX7_laysValues { frames := 2, cells := 0, slots := 0, locals := 46 } (g_Fin E (g_rv (fun I' => frV I I' ∧ vaM I' ru nr ∧ ∃ r', r' ≤ r + 1806 ∧ rdM I' r') J R D N ex) 0 0) 0 0 113 [(3, .int (nI (a + 1))), (2, .int (nI n)), (0, .ref 79), (1, .int (nI k))] [] (I', J, R, D, N, ex) := by
            intro f3
            induction f3 with
            | zero =>
              intro a x I' ha g1 g2 g3 g4 g5 g6 g7 g8
              obtain rfl : a = n := by omega
              have hx6 : x < 65536 := by have := Nat.pow_le_pow_right (show 0 < 2 by decide) (show a + 1 ≤ 16 by omega); have e : (2 : Nat) ^ 16 = 65536 := by decide
                                         omega
              have t9 := ih2 (a + 1) I' (by omega) g1 g2 g3 g4 (fun n' hn' => by rcases Nat.lt_or_ge n' a with z | z; exact g5 n' z; (obtain rfl : n' = a := by omega); exact ⟨x, hx6, g6, g8⟩)
              refine w_iload_n dX7_laysValues_113 rfl ?_
              refine w_iload_n dX7_laysValues_114 rfl ?_
              refine w_icmp_gt (tgt := 151) dX7_laysValues_115 (by decide) (fun c_115 => ?_) (fun c_115 => absurd ((nI_lt (by omega) (by omega))) c_115)
              refine w_iinc (v := nI (a + 1)) dX7_laysValues_151 rfl (nI_inc _) (by decide) rfl ?_
              refine w_goto (tgt := 93) dX7_laysValues_154 (by decide) ?_
              exact w_lv [2, 0, 1] t9
            | succ f3 ih3 =>
              intro a x I' ha g1 g2 g3 g4 g5 g6 g7 g8
              have hal := hmf I' g1
              have hok : okI (ru.1 k) (alS al) n (nI (a + 1)) = okA (ru.1 k) (ru.2.1 k) n (a + 1) := by rw [okI_nI (by omega) (by omega), hm2]
              have hpw : (2 : Nat) ^ (a + 1) ≤ 2 ^ 16 := Nat.pow_le_pow_right (by decide) (by omega)
              cases hb : okA (ru.1 k) (ru.2.1 k) n (a + 1) with
              | false =>
                have t9 := ih3 (a + 1) x I' (by omega) g1 g2 g3 g4 g5 g6 (Nat.lt_of_lt_of_le g7 (Nat.pow_le_pow_right (by decide) (by omega))) (fun a' h1 h2 => by
                  rcases Nat.lt_or_ge a a' with z | z
                  · obtain rfl : a' = a + 1 := by omega
                    rw [hb]; exact tb_hi g7 (Nat.le_refl _)
                  · exact g8 a' h1 z)
                refine w_iload_n dX7_laysValues_113 rfl ?_
                refine w_iload_n dX7_laysValues_114 rfl ?_
                refine w_icmp_gt (tgt := 151) dX7_laysValues_115 (by decide) (fun c_115 => absurd c_115 ((nI_nlt (by omega) (by omega)))) (fun c_115 => ?_)
                refine w_aload_n dX7_laysValues_118 rfl ?_
                refine w_iload_n dX7_laysValues_119 rfl ?_
                refine w_iload_n dX7_laysValues_120 rfl ?_
                refine w_iload_n dX7_laysValues_121 rfl ?_
                refine y_callV dX7_laysValues_122 lk_X7_92 [.int (nI k), .int (nI n), .int (nI (a + 1))] rfl (m_allows E l hR (by omega) hal (by omega) _) (g_recv.obj (ci := 7) rfl (by decide) (show 79 < N by omega)) rfl ⟨⟨by decide, by decide⟩, by decide, by decide⟩ (lb rfl) ?_
                rw [hok, hb]
                refine w_if_eq (tgt := 145) dX7_laysValues_125 (by decide) (fun c_125 => ?_) (fun c_125 => absurd (rfl) c_125)
                refine w_iinc (v := nI (a + 1 + 1)) dX7_laysValues_145 rfl (nI_inc _) (by decide) rfl ?_
                refine w_goto (tgt := 113) dX7_laysValues_148 (by decide) ?_
                exact w_lv [3, 2, 0, 1] t9
              | true =>
                have t9 := ih3 (a + 1) (x ||| 2 ^ (a + 1)) (up2 I' 95 (16 * k + n) (nI (x ||| 2 ^ (a + 1)))) (by omega) (g1.trans ⟨fun o _ _ _ d => by funext j; exact up2_n _ _ (by simp [d]), fun j _ => up2_n _ _ (by simp)⟩) ⟨by rw [up2_n _ _ (by simp)]; exact g2.1, fun v hv => by rw [up2_n _ _ (by simp)]; exact g2.2 v hv⟩ (fun k' hk' i hi => by rw [up2_n _ _ (by simp)]; exact g3 k' hk' i hi) (fun k' hk' n' hn' => by
                    obtain ⟨y, y1, y2, y3⟩ := g4 k' hk' n' hn'
                    exact ⟨y, y1, by rw [up2_n _ _ (by omega)]; exact y2, y3⟩) (fun n' hn' => by
                    obtain ⟨y, y1, y2, y3⟩ := g5 n' hn'
                    exact ⟨y, y1, by rw [up2_n _ _ (by omega)]; exact y2, y3⟩) (up2_s ..) (Nat.or_lt_two_pow (Nat.lt_of_lt_of_le g7 (Nat.pow_le_pow_right (by decide) (by omega))) (Nat.pow_lt_pow_right (by decide) (by omega))) (fun a' h1 h2 => by
                  rw [Nat.testBit_or, Nat.testBit_two_pow]
                  rcases Nat.lt_or_ge a a' with z | z
                  · obtain rfl : a' = a + 1 := by omega
                    rw [hb, decide_eq_true rfl, Bool.or_true]
                  · rw [g8 a' h1 z, decide_eq_false (by omega), Bool.or_false])
                refine w_iload_n dX7_laysValues_113 rfl ?_
                refine w_iload_n dX7_laysValues_114 rfl ?_
                refine w_icmp_gt (tgt := 151) dX7_laysValues_115 (by decide) (fun c_115 => absurd c_115 ((nI_nlt (by omega) (by omega)))) (fun c_115 => ?_)
                refine w_aload_n dX7_laysValues_118 rfl ?_
                refine w_iload_n dX7_laysValues_119 rfl ?_
                refine w_iload_n dX7_laysValues_120 rfl ?_
                refine w_iload_n dX7_laysValues_121 rfl ?_
                refine y_callV dX7_laysValues_122 lk_X7_92 [.int (nI k), .int (nI n), .int (nI (a + 1))] rfl (m_allows E l hR (by omega) hal (by omega) _) (g_recv.obj (ci := 7) rfl (by decide) (show 79 < N by omega)) rfl ⟨⟨by decide, by decide⟩, by decide, by decide⟩ (lb rfl) ?_
                rw [hok, hb]
                refine w_if_eq (tgt := 145) dX7_laysValues_125 (by decide) (fun c_125 => absurd c_125 ((by decide))) (fun c_125 => ?_)
                refine w_aload_n dX7_laysValues_128 rfl ?_
                refine x_getr (ci := 7) (k := 20) (a := 95) dX7_laysValues_129 rfl (by decide) (by decide) (by omega) fl_X7_57 (Or.inr ⟨_, rfl⟩) hR.2.2.2.2.2.2.2.2.2.2.2.2.2.2.2.2.1 ?_
                refine w_bipush (v := 16) dX7_laysValues_132 (by decide) ?_
                refine w_iload_n dX7_laysValues_134 rfl ?_
                refine w_imul dX7_laysValues_135 ?_
                refine w_st (show _ = [.int (nI (16 * k)), .ref 95] from by rw [← pk_mul]; rfl) ?_
                refine w_iload_n dX7_laysValues_136 rfl ?_
                refine w_iadd dX7_laysValues_137 ?_
                rw [nI_add]
                refine w_dup2 dX7_laysValues_138 rfl rfl ?_
                refine x_iald (j := 16 * k + n) dX7_laysValues_139 rfl (by omega) rfl (show 16 * k + n < 96 by omega) ?_
                rw [g6]
                refine w_iconst (v := 1) dX7_laysValues_140 (by decide) ?_
                refine w_iload_n dX7_laysValues_141 rfl ?_
                refine w_ishl dX7_laysValues_142 ?_
                refine w_ior dX7_laysValues_143 ?_
                refine w_st (show _ = [.int (nI (x ||| 2 ^ (a + 1))), .int (nI (16 * k + n)), .ref 95] from by rw [show (1 : Int32) = nI 1 from rfl, nx_shl (by omega), Nat.one_mul, nx_or]) ?_
                refine x_iast (j := 16 * k + n) dX7_laysValues_144 rfl (by omega) rfl (show 16 * k + n < 96 by omega) ?_
                refine w_iinc (v := nI (a + 1 + 1)) dX7_laysValues_145 rfl (nI_inc _) (by decide) rfl ?_
                refine w_goto (tgt := 113) dX7_laysValues_148 (by decide) ?_
                exact w_lv [3, 2, 0, 1] t9
          refine w_iload_n dX7_laysValues_93 rfl ?_
          refine w_bipush (v := 15) dX7_laysValues_94 (by decide) ?_
          refine w_icmp_gt (tgt := 157) dX7_laysValues_96 (by decide) (fun c_96 => absurd c_96 ((nI_nlt (a := 15) (by omega) (by omega)))) (fun c_96 => ?_)
          refine w_aload_n dX7_laysValues_99 rfl ?_
          refine x_getr (ci := 7) (k := 20) (a := 95) dX7_laysValues_100 rfl (by decide) (by decide) (by omega) fl_X7_57 (Or.inr ⟨_, rfl⟩) hR.2.2.2.2.2.2.2.2.2.2.2.2.2.2.2.2.1 ?_
          refine w_bipush (v := 16) dX7_laysValues_103 (by decide) ?_
          refine w_iload_n dX7_laysValues_105 rfl ?_
          refine w_imul dX7_laysValues_106 ?_
          refine w_st (show _ = [.int (nI (16 * k)), .ref 95] from by rw [← pk_mul]; rfl) ?_
          refine w_iload_n dX7_laysValues_107 rfl ?_
          refine w_iadd dX7_laysValues_108 ?_
          rw [nI_add]
          refine w_iconst (v := 0) dX7_laysValues_109 (by decide) ?_
          refine x_iast (j := 16 * k + n) dX7_laysValues_110 rfl (by omega) rfl (show 16 * k + n < 96 by omega) ?_
          refine w_iconst (v := 1) dX7_laysValues_111 (by decide) ?_
          refine w_istore_n dX7_laysValues_112 (by decide) rfl ?_
          refine w_lv [3, 2, 0, 1] (s113 n 0 0 _ (by omega) (g1.trans ⟨fun o _ _ _ d => by funext j; exact up2_n _ _ (by simp [d]), fun j _ => up2_n _ _ (by simp)⟩) ⟨by rw [up2_n _ _ (by simp)]; exact g2.1, fun v hv => by rw [up2_n _ _ (by simp)]; exact g2.2 v hv⟩ (fun k' hk' i hi => by rw [up2_n _ _ (by simp)]; exact g3 k' hk' i hi) (fun k' hk' n' hn' => ?_) (fun n' hn' => ?_) (up2_s ..) (by decide) (fun a' h1 h2 => by omega))
          · obtain ⟨y, y1, y2, y3⟩ := g4 k' hk' n' hn'; exact ⟨y, y1, by rw [up2_n _ _ (by omega)]; exact y2, y3⟩
          · obtain ⟨y, y1, y2, y3⟩ := g5 n' hn'; exact ⟨y, y1, by rw [up2_n _ _ (by omega)]; exact y2, y3⟩
      have s12 : ∀ (f2 n : Nat) (I' : Nat → Nat → Int32), n + f2 = 301 → frV I I' → rdM I' (r + 301 * k + n) → (∀ k', k' < k → ∀ i, i < 301 → I' 91 (301 * k' + i) = vS ru k' i) → (∀ i, i < n → I' 91 (301 * k + i) = vS ru k i) → (∀ k', k' < k → ∀ n, n < 16 → wyC I' ru k' n) → g_Wp E l mX7_laysValues { frames := 2, cells := 0, slots := 0, locals := 46 } (g_Fin E (g_rv (fun I' => frV I I' ∧ vaM I' ru nr ∧ ∃ r', r' ≤ r + 1806 ∧ rdM I' r') J R D N ex) 0 0) 0 0 12 [(2, .int (nI n)), (0, .ref 79), (1, .int (nI k))] [] (I', J, R, D, N, ex) := by
        intro f2
        induction f2 with
        | zero =>
          intro n I' hn3 g1 g2 g3 g5 g4
          obtain rfl : n = 301 := by omega
          refine w_iload_n dX7_laysValues_12 rfl ?_
          refine w_sipush (v := 300) dX7_laysValues_13 (by decide) ?_
          refine w_icmp_gt (tgt := 91) dX7_laysValues_16 (by decide) (fun c_16 => ?_) (fun c_16 => absurd ((by decide)) c_16)
          refine w_iconst (v := 0) dX7_laysValues_91 (by decide) ?_
          refine w_istore_n dX7_laysValues_92 (by decide) rfl ?_
          exact w_lv [2, 0, 1] (s93 16 0 I' (by omega) g1 g2 (fun k' hk' i hi => by rcases Nat.lt_or_ge k' k with z | z; exact g3 k' z i hi; (obtain rfl : k' = k := by omega); exact g5 i hi) g4 (fun n' hn' => absurd hn' (Nat.not_lt_zero n')))
        | succ f2 ih2 =>
          intro n I' hn3 g1 g2 g3 g5 g4
          have hgn := gv_le (ru.1 k) (ru.2.1 k) n
          have s31 : ∀ (f3 a : Nat) (I' : Nat → Nat → Int32), a + f3 = n → frV I I' → I' 79 19 = nI (r + 301 * k + (n + 1)) → (∀ v, v < 512 → (I' 94 v = nI (r + 301 * k + (n + 1)) ↔ hitV (ru.1 k) (ru.2.1 k) n a v = true)) → (∀ v, v < 512 → ∃ m, m ≤ r + 301 * k + (n + 1) ∧ I' 94 v = nI m) → (∀ k', k' < k → ∀ i, i < 301 → I' 91 (301 * k' + i) = vS ru k' i) → (∀ i, i < n → I' 91 (301 * k + i) = vS ru k i) → (∀ k', k' < k → ∀ n, n < 16 → wyC I' ru k' n) → g_Wp E l mX7_laysValues { frames := 2, cells := 0, slots := 0, locals := 46 } (g_Fin E (g_rv (fun I' => frV I I' ∧ vaM I' ru nr ∧ ∃ r', r' ≤ r + 1806 ∧ rdM I' r') J R D N ex) 0 0) 0 0 31 [(3, .int (nI (a + 1))), (2, .int (nI n)), (0, .ref 79), (1, .int (nI k))] [] (I', J, R, D, N, ex) := by
            intro f3
            induction f3 with
            | zero =>
              intro a I' ha g1 g2 g6 g7 g3 g5 g4
              obtain rfl : a = n := by omega
              have hge := gv_eq (ru.1 k) (ru.2.1 k) a
              have hfl : firstN (hitV (ru.1 k) (ru.2.1 k) a a) 301 0 < 0 + 301 := by rw [← hge]; omega
              have u1 : ∀ j, j < gv (ru.1 k) (ru.2.1 k) a → I' 94 j = nI (r + 301 * k + (a + 1)) := fun j hj => (g6 j (by omega)).mpr (firstN_all _ 301 0 j (Nat.zero_le _) (by rw [← hge]; exact hj))
              have u2 : I' 94 (gv (ru.1 k) (ru.2.1 k) a) ≠ nI (r + 301 * k + (a + 1)) := fun q => by
                have h1 := (g6 _ (by omega)).mp q
                have h2 := firstN_not _ 301 0 hfl
                rw [← hge, h1] at h2
                cases h2
              have t9 := ih2 (a + 1) (up2 I' 91 (301 * k + a) (vS ru k a)) (by omega) (g1.trans ⟨fun o _ b _ _ => by funext j; exact up2_n _ _ (by simp [b]), fun j _ => up2_n _ _ (by simp)⟩) ⟨by rw [up2_n _ _ (by simp)]; exact g2, fun v hv => by rw [up2_n _ _ (by simp)]; exact g7 v hv⟩ (fun k' hk' i hi => by rw [up2_n _ _ (by omega)]; exact g3 k' hk' i hi) (fun i hi => by
                rcases Nat.lt_or_ge i a with z | z
                · rw [up2_n _ _ (by omega)]; exact g5 i z
                · obtain rfl : i = a := by omega
                  exact up2_s ..) (fun k' hk' n' hn' => by
                    obtain ⟨y, y1, y2, y3⟩ := g4 k' hk' n' hn'
                    exact ⟨y, y1, by rw [up2_n _ _ (by simp)]; exact y2, y3⟩)
              refine w_iload_n dX7_laysValues_31 rfl ?_
              refine w_iload_n dX7_laysValues_32 rfl ?_
              refine w_icmp_gt (tgt := 69) dX7_laysValues_33 (by decide) (fun c_33 => ?_) (fun c_33 => absurd ((nI_lt (by omega) (by omega))) c_33)
              refine w_aload_n dX7_laysValues_69 rfl ?_
              refine x_getr (ci := 7) (k := 12) (a := 91) dX7_laysValues_70 rfl (by decide) (by decide) (by omega) fl_X7_44 (Or.inr ⟨_, rfl⟩) hR.2.2.2.2.2.2.2.2.2.2.2.2.1 ?_
              refine w_sipush (v := 301) dX7_laysValues_73 (by decide) ?_
              refine w_iload_n dX7_laysValues_76 rfl ?_
              refine w_imul dX7_laysValues_77 ?_
              refine w_st (show _ = [.int (nI (301 * k)), .ref 91] from by rw [← pk_mul]; rfl) ?_
              refine w_iload_n dX7_laysValues_78 rfl ?_
              refine w_iadd dX7_laysValues_79 ?_
              rw [nI_add]
              refine w_aload_n dX7_laysValues_80 rfl ?_
              refine y_callV dX7_laysValues_81 lk_X7_105 [] rfl (m_leastUnmet E l hR g2 u1 u2 (by omega)) (g_recv.obj (ci := 7) rfl (by decide) (show 79 < N by omega)) rfl ⟨⟨by decide, by decide⟩, by decide, by decide⟩ (lb rfl) ?_
              refine x_iast (j := 301 * k + a) dX7_laysValues_84 rfl (by omega) rfl (show 301 * k + a < 1806 by omega) ?_
              refine w_iinc (v := nI (a + 1)) dX7_laysValues_85 rfl (nI_inc _) (by decide) rfl ?_
              refine w_goto (tgt := 12) dX7_laysValues_88 (by decide) ?_
              exact w_lv [2, 0, 1] t9
            | succ f3 ih3 =>
              intro a I' ha g1 g2 g6 g7 g3 g5 g4
              have hal := hmf I' g1
              have hok : okI (ru.1 k) (alS al) n (nI (a + 1)) = okA (ru.1 k) (ru.2.1 k) n (a + 1) := by rw [okI_nI (by omega) (by omega), hm2]
              have hgb := gv_le (ru.1 k) (ru.2.1 k) (n - (a + 1))
              cases hb : okA (ru.1 k) (ru.2.1 k) n (a + 1) with
              | false =>
                have t9 := ih3 (a + 1) I' (by omega) g1 g2 (fun v hv => by rw [hitV_s2, hb, Bool.false_and, Bool.or_false]; exact g6 v hv) g7 g3 g5 g4
                refine w_iload_n dX7_laysValues_31 rfl ?_
                refine w_iload_n dX7_laysValues_32 rfl ?_
                refine w_icmp_gt (tgt := 69) dX7_laysValues_33 (by decide) (fun c_33 => absurd c_33 ((nI_nlt (by omega) (by omega)))) (fun c_33 => ?_)
                refine w_aload_n dX7_laysValues_36 rfl ?_
                refine w_iload_n dX7_laysValues_37 rfl ?_
                refine w_iload_n dX7_laysValues_38 rfl ?_
                refine w_iload_n dX7_laysValues_39 rfl ?_
                refine y_callV dX7_laysValues_40 lk_X7_92 [.int (nI k), .int (nI n), .int (nI (a + 1))] rfl (m_allows E l hR (by omega) hal (by omega) _) (g_recv.obj (ci := 7) rfl (by decide) (show 79 < N by omega)) rfl ⟨⟨by decide, by decide⟩, by decide, by decide⟩ (lb rfl) ?_
                rw [hok, hb]
                refine w_if_eq (tgt := 63) dX7_laysValues_43 (by decide) (fun c_43 => ?_) (fun c_43 => absurd (rfl) c_43)
                refine w_iinc (v := nI (a + 1 + 1)) dX7_laysValues_63 rfl (nI_inc _) (by decide) rfl ?_
                refine w_goto (tgt := 31) dX7_laysValues_66 (by decide) ?_
                exact w_lv [3, 2, 0, 1] t9
              | true =>
                have t9 := ih3 (a + 1) (up2 I' 94 (gv (ru.1 k) (ru.2.1 k) (n - (a + 1))) (nI (r + 301 * k + (n + 1)))) (by omega) (g1.trans ⟨fun o _ _ d _ => by funext j; exact up2_n _ _ (by simp [d]), fun j _ => up2_n _ _ (by simp)⟩) (by rw [up2_n _ _ (by simp)]; exact g2) (fun v hv => by
                    rw [hitV_s2, hb, Bool.true_and]
                    by_cases e : v = gv (ru.1 k) (ru.2.1 k) (n - (a + 1))
                    · subst e; rw [up2_s, decide_eq_true rfl, Bool.or_true]; exact ⟨fun _ => rfl, fun _ => rfl⟩
                    · rw [up2_n _ _ (by simp [e]), decide_eq_false (fun q => e q.symm), Bool.or_false]; exact g6 v hv) (fun v hv => by
                    by_cases e : v = gv (ru.1 k) (ru.2.1 k) (n - (a + 1))
                    · subst e; exact ⟨_, Nat.le_refl _, up2_s ..⟩
                    · rw [up2_n _ _ (by simp [e])]; exact g7 v hv) (fun k' hk' i hi => by rw [up2_n _ _ (by simp)]; exact g3 k' hk' i hi) (fun i hi => by rw [up2_n _ _ (by simp)]; exact g5 i hi) (fun k' hk' n' hn' => by
                    obtain ⟨y, y1, y2, y3⟩ := g4 k' hk' n' hn'
                    exact ⟨y, y1, by rw [up2_n _ _ (by simp)]; exact y2, y3⟩)
                refine w_iload_n dX7_laysValues_31 rfl ?_
                refine w_iload_n dX7_laysValues_32 rfl ?_
                refine w_icmp_gt (tgt := 69) dX7_laysValues_33 (by decide) (fun c_33 => absurd c_33 ((nI_nlt (by omega) (by omega)))) (fun c_33 => ?_)
                refine w_aload_n dX7_laysValues_36 rfl ?_
                refine w_iload_n dX7_laysValues_37 rfl ?_
                refine w_iload_n dX7_laysValues_38 rfl ?_
                refine w_iload_n dX7_laysValues_39 rfl ?_
                refine y_callV dX7_laysValues_40 lk_X7_92 [.int (nI k), .int (nI n), .int (nI (a + 1))] rfl (m_allows E l hR (by omega) hal (by omega) _) (g_recv.obj (ci := 7) rfl (by decide) (show 79 < N by omega)) rfl ⟨⟨by decide, by decide⟩, by decide, by decide⟩ (lb rfl) ?_
                rw [hok, hb]
                refine w_if_eq (tgt := 63) dX7_laysValues_43 (by decide) (fun c_43 => absurd c_43 ((by decide))) (fun c_43 => ?_)
                refine w_aload_n dX7_laysValues_46 rfl ?_
                refine x_getr (ci := 7) (k := 18) (a := 94) dX7_laysValues_47 rfl (by decide) (by decide) (by omega) fl_X7_54 (Or.inr ⟨_, rfl⟩) hR.2.2.2.2.2.2.2.2.2.2.2.2.2.2.2.1 ?_
                refine w_aload_n dX7_laysValues_50 rfl ?_
                refine w_iload_n dX7_laysValues_51 rfl ?_
                refine w_iload_n dX7_laysValues_52 rfl ?_
                refine w_iload_n dX7_laysValues_53 rfl ?_
                refine w_isub dX7_laysValues_54 ?_
                rw [pk_sub (by omega)]
                refine y_callV dX7_laysValues_55 lk_X7_101 [.int (nI k), .int (nI (n - (a + 1)))] rfl (m_valueOf E l hR.1 hR.2.2.2.2.2.2.2.2.2.2.2.2.1 (show k < 6 by omega) (show n - (a + 1) < 301 by omega)) (g_recv.obj (ci := 7) rfl (by decide) (show 79 < N by omega)) rfl ⟨⟨by decide, by decide⟩, by decide, by decide⟩ (lb rfl) ?_
                rw [g5 (n - (a + 1)) (by omega)]
                refine w_aload_n dX7_laysValues_58 rfl ?_
                refine x_geti (ci := 7) (k := 19) dX7_laysValues_59 rfl (by decide) (by decide) (by omega) fl_X7_95 rfl ?_
                rw [g2]
                refine x_iast (j := gv (ru.1 k) (ru.2.1 k) (n - (a + 1))) dX7_laysValues_62 rfl (by omega) rfl (show gv (ru.1 k) (ru.2.1 k) (n - (a + 1)) < 512 by omega) ?_
                refine w_iinc (v := nI (a + 1 + 1)) dX7_laysValues_63 rfl (nI_inc _) (by decide) rfl ?_
                refine w_goto (tgt := 31) dX7_laysValues_66 (by decide) ?_
                exact w_lv [3, 2, 0, 1] t9
          refine w_iload_n dX7_laysValues_12 rfl ?_
          refine w_sipush (v := 300) dX7_laysValues_13 (by decide) ?_
          refine w_icmp_gt (tgt := 91) dX7_laysValues_16 (by decide) (fun c_16 => absurd c_16 ((nI_nlt (a := 300) (by omega) (by omega)))) (fun c_16 => ?_)
          refine w_aload_n dX7_laysValues_19 rfl ?_
          refine w_dup dX7_laysValues_20 rfl ?_
          refine x_geti (ci := 7) (k := 19) dX7_laysValues_21 rfl (by decide) (by decide) (by omega) fl_X7_95 rfl ?_
          rw [g2.1]
          refine w_iconst (v := 1) dX7_laysValues_24 (by decide) ?_
          refine w_iadd dX7_laysValues_25 ?_
          refine w_st (show _ = [.int (nI (r + 301 * k + (n + 1))), .ref 79] from by rw [nI_1]; rfl) ?_
          refine x_puti (ci := 7) (k := 19) dX7_laysValues_26 rfl (by decide) (by decide) (by omega) fl_X7_95 rfl rfl ?_
          refine w_iconst (v := 1) dX7_laysValues_29 (by decide) ?_
          refine w_istore_n dX7_laysValues_30 (by decide) rfl ?_
          refine w_lv [3, 2, 0, 1] (s31 n 0 _ (by omega) (g1.trans ⟨fun o a _ _ _ => by funext j; exact up2_n _ _ (by simp [a]), fun j a => up2_n _ _ (by simp [a])⟩) (up2_s ..) (fun v hv => ?_) (fun v hv => ?_) (fun k' hk' i hi => by rw [up2_n _ _ (by simp)]; exact g3 k' hk' i hi) (fun i hi => by rw [up2_n _ _ (by simp)]; exact g5 i hi) (fun k' hk' n' hn' => by obtain ⟨y, y1, y2, y3⟩ := g4 k' hk' n' hn'; exact ⟨y, y1, by rw [up2_n _ _ (by simp)]; exact y2, y3⟩))
          · obtain ⟨m, m1, m2⟩ := g2.2 v hv
            rw [up2_n _ _ (by simp), m2]
            constructor
            · intro q; have := n_eq q (by omega) (by omega); omega
            · intro q; cases q
          · obtain ⟨m, m1, m2⟩ := g2.2 v hv
            exact ⟨m, by omega, by rw [up2_n _ _ (by simp)]; exact m2⟩
      refine w_iload_n dX7_laysValues_2 rfl ?_
      refine w_aload_n dX7_laysValues_3 rfl ?_
      refine x_geti (ci := 7) (k := 15) dX7_laysValues_4 rfl (by decide) (by decide) (by omega) fl_X7_98 rfl ?_
      rw [g1.2 15 (by decide), hn]
      refine w_icmp_ge (tgt := 163) dX7_laysValues_7 (by decide) (fun c_7 => absurd c_7 ((nI_ge (by omega) (by omega)))) (fun c_7 => ?_)
      refine w_iconst (v := 0) dX7_laysValues_10 (by decide) ?_
      refine w_istore_n dX7_laysValues_11 (by decide) rfl ?_
      exact w_lv [2, 0, 1] (s12 301 0 I' (by omega) g1 g2 g3 (fun i hi => absurd hi (Nat.not_lt_zero i)) g4)
  refine w_iconst (v := 0) dX7_laysValues_0 (by decide) ?_
  refine w_istore_n dX7_laysValues_1 (by decide) rfl ?_
  exact w_lv [1, 0] (s2 nr 0 I (by omega) (frV.refl I) hr (fun k hk => absurd hk (Nat.not_lt_zero k)) (fun k hk => absurd hk (Nat.not_lt_zero k)))
end LV
