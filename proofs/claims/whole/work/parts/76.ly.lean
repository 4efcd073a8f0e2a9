/-! HeapGamesModel.leadsShared, laysPosition -/
theorem pA_lt {m t : Nat} (hm : m ≤ 4) (ht : t < 4 * 16 ^ m) : pA m t < 262144 := by
  unfold pA
  rcases (show m = 0 ∨ m = 1 ∨ m = 2 ∨ m = 3 ∨ m = 4 by omega) with rfl | rfl | rfl | rfl | rfl <;> simp only [Nat.reducePow] at * <;> omega
theorem pA_dig {m t h : Nat} (hm : m ≤ 4) (hh : h < m) : dig (pA m t) h = dig t h := by
  unfold pA
  rcases (show m = 1 ∨ m = 2 ∨ m = 3 ∨ m = 4 by omega) with rfl | rfl | rfl | rfl
  · obtain rfl : h = 0 := by omega
    simp only [Nat.reducePow, dig0] at *
    omega
  · rcases (show h = 0 ∨ h = 1 by omega) with rfl | rfl <;> simp only [Nat.reducePow, dig0, dig1] at * <;> omega
  · rcases (show h = 0 ∨ h = 1 ∨ h = 2 by omega) with rfl | rfl | rfl <;> simp only [Nat.reducePow, dig0, dig1, dig2] at * <;> omega
  · rcases (show h = 0 ∨ h = 1 ∨ h = 2 ∨ h = 3 by omega) with rfl | rfl | rfl | rfl <;> simp only [Nat.reducePow, dig0, dig1, dig2, dig3] at * <;> omega
theorem pA_sub {m t x : Nat} (hm : m ≤ 4) (hx : x ≤ t % 16 ^ m) : pA m (t - x) = pA m t - x := by
  unfold pA
  rcases (show m = 0 ∨ m = 1 ∨ m = 2 ∨ m = 3 ∨ m = 4 by omega) with rfl | rfl | rfl | rfl | rfl <;> simp only [Nat.reducePow] at * <;> omega
theorem pA_pass {m t : Nat} (hm : m ≤ 4) : 16 ^ m ≤ t ↔ 65536 ≤ pA m t := by
  unfold pA
  rcases (show m = 0 ∨ m = 1 ∨ m = 2 ∨ m = 3 ∨ m = 4 by omega) with rfl | rfl | rfl | rfl | rfl <;> simp only [Nat.reducePow] at * <;> omega
theorem pA_pas2 {m t : Nat} (hm : m ≤ 4) (ht : 16 ^ m ≤ t) : pA m (t - 16 ^ m) = pA m t - 65536 := by
  unfold pA
  rcases (show m = 0 ∨ m = 1 ∨ m = 2 ∨ m = 3 ∨ m = 4 by omega) with rfl | rfl | rfl | rfl | rfl <;> simp only [Nat.reducePow] at * <;> omega
theorem tk_le {m t h a : Nat} (hm : m ≤ 4) (hh : h < m) (ha : a ≤ dig t h) : a * 2 ^ (4 * h) ≤ t % 16 ^ m := by
  rcases (show m = 1 ∨ m = 2 ∨ m = 3 ∨ m = 4 by omega) with rfl | rfl | rfl | rfl
  · obtain rfl : h = 0 := by omega
    simp only [Nat.reducePow, Nat.reduceMul, dig0] at *
    omega
  · rcases (show h = 0 ∨ h = 1 by omega) with rfl | rfl <;> simp only [Nat.reducePow, Nat.reduceMul, dig0, dig1] at * <;> omega
  · rcases (show h = 0 ∨ h = 1 ∨ h = 2 by omega) with rfl | rfl | rfl <;> simp only [Nat.reducePow, Nat.reduceMul, dig0, dig1, dig2] at * <;> omega
  · rcases (show h = 0 ∨ h = 1 ∨ h = 2 ∨ h = 3 by omega) with rfl | rfl | rfl | rfl <;> simp only [Nat.reducePow, Nat.reduceMul, dig0, dig1, dig2, dig3] at * <;> omega
theorem bt_le {m t h o a : Nat} (hm : m ≤ 4) (hh : h < o) (ho : o < m) (ha : a ≤ dig t h) (ha2 : a ≤ dig t o) : a * 2 ^ (4 * h) + a * 2 ^ (4 * o) ≤ t % 16 ^ m := by
  rcases (show m = 2 ∨ m = 3 ∨ m = 4 by omega) with rfl | rfl | rfl
  · obtain ⟨rfl, rfl⟩ : h = 0 ∧ o = 1 := by omega
    simp only [Nat.reducePow, Nat.reduceMul, dig0, dig1] at *
    omega
  · rcases (show (h = 0 ∧ o = 1) ∨ (h = 0 ∧ o = 2) ∨ (h = 1 ∧ o = 2) by omega) with ⟨rfl, rfl⟩ | ⟨rfl, rfl⟩ | ⟨rfl, rfl⟩ <;> simp only [Nat.reducePow, Nat.reduceMul, dig0, dig1, dig2] at * <;> omega
  · rcases (show (h = 0 ∧ o = 1) ∨ (h = 0 ∧ o = 2) ∨ (h = 1 ∧ o = 2) ∨ (h = 0 ∧ o = 3) ∨ (h = 1 ∧ o = 3) ∨ (h = 2 ∧ o = 3) by omega) with ⟨rfl, rfl⟩ | ⟨rfl, rfl⟩ | ⟨rfl, rfl⟩ | ⟨rfl, rfl⟩ | ⟨rfl, rfl⟩ | ⟨rfl, rfl⟩ <;> simp only [Nat.reducePow, Nat.reduceMul, dig0, dig1, dig2, dig3] at * <;> omega
theorem mvS_nil (c : Cf) (p h : Nat) : ∀ n, n ≤ h + 1 → mvS c p h n = []
  | 0, _ => rfl
  | n + 1, hn => by rw [mvS, mvS_nil c p h n (by omega), if_neg (by omega)]; rfl
section MJ
variable (E : GE) (l : Launch)
variable {I : Nat → Nat → Int32} {J : Nat → Nat → Int64} {R : Nat → Nat → Option Nat} {D : Nat → Nat → UInt64} {N : Nat} {ex : Bool}
set_option maxRecDepth 100000 in
theorem m_leadsShared (hR : lkM R N) {s : Nat} (hs : I 79 16 = nI s) (hs6 : s < 65536) {t h o r : Nat} (ht : t < 262144) (hh : h < o) (ho : o < 4) {V : Mv → Rs} {L : List Mv} (hac : acM I r (L.map V))
    (hV : ∀ a, 1 ≤ a → a ≤ min (dig t h) (dig t o) → s.testBit a = true → a * 2 ^ (4 * h) + a * 2 ^ (4 * o) ≤ t ∧ I 98 (t - a * 2 ^ (4 * h) - a * 2 ^ (4 * o)) = nI (encM (V (Mv.both h o a))) ∧ rsL (V (Mv.both h o a))) : g_Ct E l mX7_leadsShared 2 43 0 0 [.ref 79, .int (nI t), .int (nI h), .int (nI o)] (I, J, R, D, N, ex) (g_rv (fun I' => acM I' r ((L ++ (amt s.testBit (min (dig t h) (dig t o))).map (Mv.both h o)).map V) ∧ frA I I') J R D N ex) := by
  refine g_Ct.of (by decide +kernel) (lb rfl) ?_
  have hN := hR.1
  have d1 := dig_lt t h
  have d2 := dig_lt t o
  generalize hmn : min (dig t h) (dig t o) = mn at *
  have loop : ∀ (f a : Nat) (I' : Nat → Nat → Int32), a + f = mn → acM I' r ((L ++ (amt s.testBit a).map (Mv.both h o)).map V) → frA I I' → g_Wp E l mX7_leadsShared { frames := 2, cells := 0, slots := 0, locals := 43 } (g_Fin E (g_rv (fun I' => acM I' r ((L ++ (amt s.testBit mn).map (Mv.both h o)).map V) ∧ frA I I') J R D N ex) 0 0) 0 0 31 [(5, .int (nI (a + 1))), (4, .int (nI mn)), (0, .ref 79), (1, .int (nI t)), (2, .int (nI h)), (3, .int (nI o))] [] (I', J, R, D, N, ex) := by
    intro f
    induction f with
    | zero =>
      intro a I' ha h1 h2
      obtain rfl : a = mn := by omega
      refine w_iload dX7_leadsShared_31 rfl ?_
      refine w_iload dX7_leadsShared_33 rfl ?_
      refine w_icmp_gt (tgt := 77) dX7_leadsShared_35 (by decide) (fun c_35 => ?_) (fun c_35 => absurd ((nI_lt (by omega) (by omega))) c_35)
      refine w_vret dX7_leadsShared_77 rfl ⟨_, rfl, ⟨h1, h2⟩, rfl⟩ (by decide) (by decide)
    | succ f ih =>
      intro a I' ha h1 h2
      have eq2 : amt s.testBit (a + 1) = amt s.testBit a ++ (if s.testBit (a + 1) then [a + 1] else []) := rfl
      have t9 := ih (a + 1)
      rw [eq2] at t9
      refine w_iload dX7_leadsShared_31 rfl ?_
      refine w_iload dX7_leadsShared_33 rfl ?_
      refine w_icmp_gt (tgt := 77) dX7_leadsShared_35 (by decide) (fun c_35 => absurd c_35 ((nI_nlt (by omega) (by omega)))) (fun c_35 => ?_)
      refine w_aload_n dX7_leadsShared_38 rfl ?_
      refine x_geti (ci := 7) (k := 16) dX7_leadsShared_39 rfl (by decide) (by decide) (by omega) fl_X7_225 rfl ?_
      rw [h2.2 16 (by decide) (by decide) (by decide), hs]
      refine w_iload dX7_leadsShared_42 rfl ?_
      refine y_callS dX7_leadsShared_44 lk_X7_313 [.int (nI s), .int (nI (a + 1))] rfl (m_has E l _ (by omega) (by omega)) rfl ⟨⟨by decide, by decide⟩, by decide, by decide⟩ (lb rfl) ?_
      refine w_if_eq (tgt := 71) dX7_leadsShared_47 (by decide) (fun c_47 => ?_) (fun c_47 => ?_)
      · refine w_iinc (v := nI (a + 1 + 1)) dX7_leadsShared_71 rfl (nI_inc _) (by decide) rfl ?_
        refine w_goto (tgt := 31) dX7_leadsShared_74 (by decide) ?_
        first | (have hb := b2i_ne.mp c_47; rw [hb] at t9; refine w_lv [5, 4, 0, 1, 2, 3] (t9 I2 (by omega) ?_ (h2.trans g2)); rw [if_pos rfl, List.map_append (l₁ := amt s.testBit a), ← List.append_assoc, List.map_append]; exact g1) | (have hb := b2i_0.mp c_47; rw [hb, if_neg (by decide), List.append_nil] at t9; exact w_lv [5, 4, 0, 1, 2, 3] (t9 I' (by omega) h1 h2))
      · obtain ⟨v1, v2, v3⟩ := hV (a + 1) (by omega) (by omega) (b2i_ne.mp c_47)
        refine w_aload_n dX7_leadsShared_50 rfl ?_
        refine w_iload_n dX7_leadsShared_51 rfl ?_
        refine w_iload dX7_leadsShared_52 rfl ?_
        refine w_iload_n dX7_leadsShared_54 rfl ?_
        refine y_callS dX7_leadsShared_55 lk_X7_316 [.int (nI h)] rfl (m_weight E l _ (by omega)) rfl ⟨⟨by decide, by decide⟩, by decide, by decide⟩ (lb rfl) ?_
        refine w_imul dX7_leadsShared_58 ?_
        rw [pk_mul]
        refine w_isub dX7_leadsShared_59 ?_
        rw [pk_sub (by omega)]
        refine w_iload dX7_leadsShared_60 rfl ?_
        refine w_iload_n dX7_leadsShared_62 rfl ?_
        refine y_callS dX7_leadsShared_63 lk_X7_316 [.int (nI o)] rfl (m_weight E l _ (by omega)) rfl ⟨⟨by decide, by decide⟩, by decide, by decide⟩ (lb rfl) ?_
        refine w_imul dX7_leadsShared_66 ?_
        rw [pk_mul]
        refine w_isub dX7_leadsShared_67 ?_
        rw [pk_sub (by omega)]
        refine u_callV dX7_leadsShared_68 lk_X7_319 [.int (nI (t - (a + 1) * 2 ^ (4 * h) - (a + 1) * 2 ^ (4 * o)))] rfl (m_leads E l hR (by omega) (by rw [h2.1 98 (by decide) (by decide)]; exact v2) v3 h1) (g_recv.obj (ci := 7) rfl (by decide) (show 79 < N by omega)) rfl ⟨⟨by decide, by decide⟩, by decide, by decide⟩ (lb rfl) (fun I2 h_68 => ?_)
        obtain ⟨g1, g2⟩ := h_68
        refine w_iinc (v := nI (a + 1 + 1)) dX7_leadsShared_71 rfl (nI_inc _) (by decide) rfl ?_
        refine w_goto (tgt := 31) dX7_leadsShared_74 (by decide) ?_
        first | (have hb := b2i_ne.mp c_47; rw [hb] at t9; refine w_lv [5, 4, 0, 1, 2, 3] (t9 I2 (by omega) ?_ (h2.trans g2)); rw [if_pos rfl, List.map_append (l₁ := amt s.testBit a), ← List.append_assoc, List.map_append]; exact g1) | (have hb := b2i_0.mp c_47; rw [hb, if_neg (by decide), List.append_nil] at t9; exact w_lv [5, 4, 0, 1, 2, 3] (t9 I' (by omega) h1 h2))
  have start : g_Wp E l mX7_leadsShared { frames := 2, cells := 0, slots := 0, locals := 43 } (g_Fin E (g_rv (fun I' => acM I' r ((L ++ (amt s.testBit mn).map (Mv.both h o)).map V) ∧ frA I I') J R D N ex) 0 0) 0 0 31 [(5, .int (nI (0 + 1))), (4, .int (nI mn)), (0, .ref 79), (1, .int (nI t)), (2, .int (nI h)), (3, .int (nI o))] [] (I, J, R, D, N, ex) := loop mn 0 I (by omega) (by rw [show amt s.testBit 0 = [] from rfl, List.map_nil, List.append_nil]; exact hac) (frA.refl I)
  refine w_iload_n dX7_leadsShared_0 rfl ?_
  refine w_iload_n dX7_leadsShared_1 rfl ?_
  refine y_callS dX7_leadsShared_2 lk_X7_310 [.int (nI t), .int (nI h)] rfl (m_counters E l _ (by omega) (by omega)) rfl ⟨⟨by decide, by decide⟩, by decide, by decide⟩ (lb rfl) ?_
  refine w_iload_n dX7_leadsShared_5 rfl ?_
  refine w_iload_n dX7_leadsShared_6 rfl ?_
  refine y_callS dX7_leadsShared_7 lk_X7_310 [.int (nI t), .int (nI o)] rfl (m_counters E l _ (by omega) (by omega)) rfl ⟨⟨by decide, by decide⟩, by decide, by decide⟩ (lb rfl) ?_
  refine w_icmp_ge (tgt := 21) dX7_leadsShared_10 (by decide) (fun c_10 => ?_) (fun c_10 => ?_)
  · refine w_iload_n dX7_leadsShared_21 rfl ?_
    refine w_iload_n dX7_leadsShared_22 rfl ?_
    refine y_callS dX7_leadsShared_23 lk_X7_310 [.int (nI t), .int (nI o)] rfl (m_counters E l _ (by omega) (by omega)) rfl ⟨⟨by decide, by decide⟩, by decide, by decide⟩ (lb rfl) ?_
    refine w_istore dX7_leadsShared_26 (by decide) rfl ?_
    refine w_iconst (v := 1) dX7_leadsShared_28 (by decide) ?_
    refine w_istore dX7_leadsShared_29 (by decide) rfl ?_
    first | (have e := n_le (a := dig t o) (b := dig t h) c_10; (have e2 : mn = dig t o := by omega); subst e2; exact w_lv [5, 4, 0, 1, 2, 3] start) | (have e := n_nle (a := dig t o) (b := dig t h) c_10; (have e2 : mn = dig t h := by omega); subst e2; exact w_lv [5, 4, 0, 1, 2, 3] start)
  · refine w_iload_n dX7_leadsShared_13 rfl ?_
    refine w_iload_n dX7_leadsShared_14 rfl ?_
    refine y_callS dX7_leadsShared_15 lk_X7_310 [.int (nI t), .int (nI h)] rfl (m_counters E l _ (by omega) (by omega)) rfl ⟨⟨by decide, by decide⟩, by decide, by decide⟩ (lb rfl) ?_
    refine w_goto (tgt := 26) dX7_leadsShared_18 (by decide) ?_
    refine w_istore dX7_leadsShared_26 (by decide) rfl ?_
    refine w_iconst (v := 1) dX7_leadsShared_28 (by decide) ?_
    refine w_istore dX7_leadsShared_29 (by decide) rfl ?_
    first | (have e := n_le (a := dig t o) (b := dig t h) c_10; (have e2 : mn = dig t o := by omega); subst e2; exact w_lv [5, 4, 0, 1, 2, 3] start) | (have e := n_nle (a := dig t o) (b := dig t h) c_10; (have e2 : mn = dig t h := by omega); subst e2; exact w_lv [5, 4, 0, 1, 2, 3] start)
end MJ
