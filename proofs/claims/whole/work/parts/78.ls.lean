/-! HeapGamesModel.isLaidSo, lays -/
theorem getD_ext {a b : List Nat} (hl : a.length = b.length) (h : ∀ i, i < a.length → a.getD i 0 = b.getD i 0) : a = b := by
  apply List.ext_getElem hl
  intro i h1 h2
  have := h i h1
  rw [List.getD_eq_getElem?_getD, List.getElem?_eq_getElem h1, List.getD_eq_getElem?_getD, List.getElem?_eq_getElem h2] at this
  exact this
def frL2 (I I' : Nat → Nat → Int32) : Prop := (∀ o, o ≠ 79 → o ≠ 94 → o ≠ 98 → o ≠ 99 → I' o = I o) ∧ ∀ k, k ≠ 19 → (k < 38 ∨ 43 < k) → I' 79 k = I 79 k
theorem frL2.refl (I : Nat → Nat → Int32) : frL2 I I := ⟨fun _ _ _ _ _ => rfl, fun _ _ _ => rfl⟩
theorem frL2.trans {I I' I'' : Nat → Nat → Int32} (h : frL2 I I') (h' : frL2 I' I'') : frL2 I I'' := ⟨fun o a b c d => (h'.1 o a b c d).trans (h.1 o a b c d), fun k a b => (h'.2 k a b).trans (h.2 k a b)⟩
theorem frP2.l {I I' : Nat → Nat → Int32} (h : frP2 I I') : frL2 I I' := ⟨fun o a b c _ => h.1 o a b c, fun k a b => h.2 k a (by omega) (by omega) (by omega)⟩
theorem cnM.l {I I' : Nat → Nat → Int32} {nr : Nat} {rs : List Nat} {mi : Bool} (h : cnM I nr rs mi) (f : frL2 I I') : cnM I' nr rs mi := by unfold cnM; rw [f.1 80 (by decide) (by decide) (by decide) (by decide)]; exact h
theorem wyM.l {I I' : Nat → Nat → Int32} {ru : Ru} {nr : Nat} (h : wyM I ru nr) (f : frL2 I I') : wyM I' ru nr := by unfold wyM; rw [f.1 95 (by decide) (by decide) (by decide) (by decide), f.2 16 (by decide) (by decide)]; exact h
section ML
variable (E : GE) (l : Launch)
variable {I : Nat → Nat → Int32} {J : Nat → Nat → Int64} {R : Nat → Nat → Option Nat} {D : Nat → Nat → UInt64} {N : Nat} {ex : Bool}
set_option maxRecDepth 100000 in
theorem m_isLaidSo_0 (hR : lkM R N) (h : I 79 40 = 0) : g_Ct E l mX7_isLaidSo 0 0 0 0 [.ref 79] (I, J, R, D, N, ex) (g_is (some (.int (b2i false))) (I, J, R, D, N, ex)) := by
  refine g_Ct.of (by decide +kernel) (lb rfl) ?_
  have hN := hR.1
  refine w_aload_n dX7_isLaidSo_0 rfl ?_
  refine x_getz (ci := 7) (k := 40) dX7_isLaidSo_1 rfl (by decide) (by decide) (by omega) fl_X7_268 rfl ?_
  rw [h]
  refine w_if_eq (tgt := 34) dX7_isLaidSo_4 (by decide) (fun c_4 => ?_) (fun c_4 => absurd (rfl) c_4)
  refine w_iconst (v := 0) dX7_isLaidSo_34 (by decide) ?_
  refine w_iret dX7_isLaidSo_35 rfl rfl ⟨rfl, rfl⟩ (by decide) (by decide)
set_option maxRecDepth 100000 in
theorem m_isLaidSo (hR : lkM R N) {nr : Nat} {rs rs' : List Nat} {mi mi' : Bool} (hc : cnM I nr rs mi) (h : cfM I nr rs' mi') : g_Ct E l mX7_isLaidSo 0 0 0 0 [.ref 79] (I, J, R, D, N, ex) (g_is (some (.int (b2i (decide (rs' = rs ∧ mi' = mi))))) (I, J, R, D, N, ex)) := by
  refine g_Ct.of (by decide +kernel) (lb rfl) ?_
  have hN := hR.1
  obtain ⟨n1, n2, n3, n4, n5, n6⟩ := hc
  obtain ⟨c1, c2, c3, c4, c5, c6⟩ := h
  have loop : rs'.length = rs.length → mi' = mi → ∀ f k : Nat, k + f = rs.length → (∀ i, i < k → rs'.getD i 0 = rs.getD i 0) → g_Wp E l mX7_isLaidSo { frames := 0, cells := 0, slots := 0, locals := 0 } (g_Fin E (g_is (some (.int (b2i (decide (rs' = rs ∧ mi' = mi))))) (I, J, R, D, N, ex)) 0 0) 0 0 38 [(1, .int (nI k)), (0, .ref 79)] [] (I, J, R, D, N, ex) := by
    intro hl hm f
    induction f with
    | zero =>
      intro k hk hs
      obtain rfl : k = rs.length := by omega
      refine w_iload_n dX7_isLaidSo_38 rfl ?_
      refine w_aload_n dX7_isLaidSo_39 rfl ?_
      refine x_getr (ci := 7) (k := 0) (a := 80) dX7_isLaidSo_40 rfl (by decide) (by decide) (by omega) fl_X7_7 (Or.inr ⟨_, rfl⟩) hR.2.1 ?_
      refine w_iconst (v := 0) dX7_isLaidSo_43 (by decide) ?_
      refine x_iald (j := 0) dX7_isLaidSo_44 rfl (by omega) rfl (show 0 < 172 by decide) ?_
      rw [n1]
      refine w_icmp_ge (tgt := 73) dX7_isLaidSo_45 (by decide) (fun c_45 => ?_) (fun c_45 => absurd ((nI_le (by omega) (by omega))) c_45)
      refine w_iconst (v := 1) dX7_isLaidSo_73 (by decide) ?_
      refine w_iret dX7_isLaidSo_74 rfl rfl ⟨rt_t (decide_eq_true ⟨getD_ext hl (fun i hi => hs i (by omega)), hm⟩), rfl⟩ (by decide) (by decide)
    | succ f ih =>
      intro k hk hs
      have hkr : k < rs.length := by omega
      have b1 := n3 _ (getD_mem hkr)
      have b2 := c3 _ (getD_mem (show k < rs'.length by omega))
      refine w_iload_n dX7_isLaidSo_38 rfl ?_
      refine w_aload_n dX7_isLaidSo_39 rfl ?_
      refine x_getr (ci := 7) (k := 0) (a := 80) dX7_isLaidSo_40 rfl (by decide) (by decide) (by omega) fl_X7_7 (Or.inr ⟨_, rfl⟩) hR.2.1 ?_
      refine w_iconst (v := 0) dX7_isLaidSo_43 (by decide) ?_
      refine x_iald (j := 0) dX7_isLaidSo_44 rfl (by omega) rfl (show 0 < 172 by decide) ?_
      rw [n1]
      refine w_icmp_ge (tgt := 73) dX7_isLaidSo_45 (by decide) (fun c_45 => absurd c_45 ((nI_ge (by omega) (by omega)))) (fun c_45 => ?_)
      refine w_aload_n dX7_isLaidSo_48 rfl ?_
      refine x_getr (ci := 7) (k := 37) (a := 99) dX7_isLaidSo_49 rfl (by decide) (by decide) (by omega) fl_X7_70 (Or.inr ⟨_, rfl⟩) hR.2.2.2.2.2.2.2.2.2.2.2.2.2.2.2.2.2.2.2.2 ?_
      refine w_iload_n dX7_isLaidSo_52 rfl ?_
      refine x_iald (j := k) dX7_isLaidSo_53 rfl (by omega) rfl (show k < 4 by omega) ?_
      rw [c6 k (by omega)]
      refine w_aload_n dX7_isLaidSo_54 rfl ?_
      refine x_getr (ci := 7) (k := 0) (a := 80) dX7_isLaidSo_55 rfl (by decide) (by decide) (by omega) fl_X7_7 (Or.inr ⟨_, rfl⟩) hR.2.1 ?_
      refine w_iconst (v := 1) dX7_isLaidSo_58 (by decide) ?_
      refine w_iload_n dX7_isLaidSo_59 rfl ?_
      refine w_iadd dX7_isLaidSo_60 ?_
      rw [show (1 : Int32) + nI k = nI (1 + k) from by rw [← nI_add]; rfl]
      refine x_iald (j := 1 + k) dX7_isLaidSo_61 rfl (by omega) rfl (show 1 + k < 172 by omega) ?_
      rw [n5 k hkr]
      refine w_icmp_eq (tgt := 67) dX7_isLaidSo_62 (by decide) (fun c_62 => ?_) (fun c_62 => ?_)
      · refine w_iinc (v := nI (k + 1)) dX7_isLaidSo_67 rfl (nI_inc _) (by decide) rfl ?_
        refine w_goto (tgt := 38) dX7_isLaidSo_70 (by decide) ?_
        exact w_lv [1, 0] (ih (k + 1) (by omega) (fun i hi => by rcases Nat.lt_or_ge i k with z | z; exact hs i z; (obtain rfl : i = k := by omega); exact n_eq c_62))
      · refine w_iconst (v := 0) dX7_isLaidSo_65 (by decide) ?_
        refine w_iret dX7_isLaidSo_66 rfl rfl ⟨rt_f (decide_eq_false (fun q => c_62 (by rw [q.1]))), rfl⟩ (by decide) (by decide)
  refine w_aload_n dX7_isLaidSo_0 rfl ?_
  refine x_getz (ci := 7) (k := 40) dX7_isLaidSo_1 rfl (by decide) (by decide) (by omega) fl_X7_268 rfl ?_
  rw [c1]
  refine w_if_eq (tgt := 34) dX7_isLaidSo_4 (by decide) (fun c_4 => absurd c_4 ((by decide))) (fun c_4 => ?_)
  refine w_aload_n dX7_isLaidSo_7 rfl ?_
  refine x_geti (ci := 7) (k := 38) dX7_isLaidSo_8 rfl (by decide) (by decide) (by omega) fl_X7_277 rfl ?_
  rw [c4]
  refine w_aload_n dX7_isLaidSo_11 rfl ?_
  refine x_getr (ci := 7) (k := 0) (a := 80) dX7_isLaidSo_12 rfl (by decide) (by decide) (by omega) fl_X7_7 (Or.inr ⟨_, rfl⟩) hR.2.1 ?_
  refine w_iconst (v := 0) dX7_isLaidSo_15 (by decide) ?_
  refine x_iald (j := 0) dX7_isLaidSo_16 rfl (by omega) rfl (show 0 < 172 by decide) ?_
  rw [n1]
  refine w_icmp_ne (tgt := 34) dX7_isLaidSo_17 (by decide) (fun c_17 => ?_) (fun c_17 => ?_)
  · refine w_iconst (v := 0) dX7_isLaidSo_34 (by decide) ?_
    refine w_iret dX7_isLaidSo_35 rfl rfl (by first | exact ⟨rt_f (decide_eq_false (fun q => c_17 (by rw [q.1]))), rfl⟩ | exact ⟨rt_f (decide_eq_false (fun q => c_31 (by rw [q.2]))), rfl⟩) (by decide) (by decide)
  · refine w_aload_n dX7_isLaidSo_20 rfl ?_
    refine x_geti (ci := 7) (k := 39) dX7_isLaidSo_21 rfl (by decide) (by decide) (by omega) fl_X7_280 rfl ?_
    rw [c5]
    refine w_aload_n dX7_isLaidSo_24 rfl ?_
    refine x_getr (ci := 7) (k := 0) (a := 80) dX7_isLaidSo_25 rfl (by decide) (by decide) (by omega) fl_X7_7 (Or.inr ⟨_, rfl⟩) hR.2.1 ?_
    refine w_bipush (v := 10) dX7_isLaidSo_28 (by decide) ?_
    refine x_iald (j := 10) dX7_isLaidSo_30 rfl (by omega) rfl (show 10 < 172 by decide) ?_
    rw [n6]
    refine w_icmp_eq (tgt := 36) dX7_isLaidSo_31 (by decide) (fun c_31 => ?_) (fun c_31 => ?_)
    · refine w_iconst (v := 0) dX7_isLaidSo_36 (by decide) ?_
      refine w_istore_n dX7_isLaidSo_37 (by decide) rfl ?_
      exact w_lv [1, 0] (loop (n_eq c_17) (b2i_inj c_31) rs.length 0 (by omega) (fun i hi => absurd hi (Nat.not_lt_zero i)))
    · refine w_iconst (v := 0) dX7_isLaidSo_34 (by decide) ?_
      refine w_iret dX7_isLaidSo_35 rfl rfl (by first | exact ⟨rt_f (decide_eq_false (fun q => c_17 (by rw [q.1]))), rfl⟩ | exact ⟨rt_f (decide_eq_false (fun q => c_31 (by rw [q.2]))), rfl⟩) (by decide) (by decide)
set_option maxRecDepth 100000 in
theorem m_lays (hR : lkM R N) {ru : Ru} {nr : Nat} {rs : List Nat} {mi : Bool} (hru : ruOK ru) (hcn : cnM I nr rs mi) (hw : wyM I ru nr) {r : Nat} (hr : rdM I r) (hr2 : r < 2 ^ 29) (hl : lyM I ru nr) : g_Ct E l mX7_lays 4 93 0 0 [.ref 79] (I, J, R, D, N, ex) (g_rv (fun I' => frL2 I I' ∧ (∃ r', r' ≤ r + 262144 ∧ rdM I' r') ∧ cfM I' nr rs mi ∧ tbM I' (cfOf ru rs mi) (4 * 16 ^ rs.length)) J R D N ex) := by
  refine g_Ct.of (by decide +kernel) (lb rfl) ?_
  have hN := hR.1
  have n2 := hcn.2.1
  have n4 := hcn.2.2.2.1
  have h16 : 16 ^ rs.length ≤ 65536 := by have := Nat.pow_le_pow_right (show 0 < 16 by decide) n2; exact this
  have e4 : nI (16 ^ rs.length) * 4 = nI (16 ^ rs.length * 4) := by rw [← pk_mul]; rfl
  have s68 : ∀ (f t : Nat) (I' : Nat → Nat → Int32), t + f = 4 * 16 ^ rs.length → frL2 I I' → rdM I' (r + t) → cfM I' nr rs mi → tbM I' (cfOf ru rs mi) t → g_Wp E l mX7_lays { frames := 4, cells := 0, slots := 0, locals := 93 } (g_Fin E (g_rv (fun I' => frL2 I I' ∧ (∃ r', r' ≤ r + 262144 ∧ rdM I' r') ∧ cfM I' nr rs mi ∧ tbM I' (cfOf ru rs mi) (4 * 16 ^ rs.length)) J R D N ex) 0 0) 0 0 68 [(1, .int (nI t)), (0, .ref 79)] [] (I', J, R, D, N, ex) := by
    intro f
    induction f with
    | zero =>
      intro t I' ht g1 g2 g3 g4
      obtain rfl : t = 4 * 16 ^ rs.length := by omega
      refine w_iload_n dX7_lays_68 rfl ?_
      refine w_aload_n dX7_lays_69 rfl ?_
      refine y_callV dX7_lays_70 lk_X7_286 [] rfl (m_positions E l hR (hcn.l g1).1 n2) (g_recv.obj (ci := 7) rfl (by decide) (show 79 < N by omega)) rfl ⟨⟨by decide, by decide⟩, by decide, by decide⟩ (lb rfl) ?_
      refine w_iconst (v := 4) dX7_lays_73 (by decide) ?_
      refine w_imul dX7_lays_74 ?_
      rw [e4]
      refine w_icmp_ge (tgt := 89) dX7_lays_75 (by decide) (fun c_75 => ?_) (fun c_75 => absurd ((nI_le (by omega) (by omega))) c_75)
      refine w_vret dX7_lays_89 rfl ⟨_, rfl, ⟨g1, ⟨_, by omega, g2⟩, g3, g4⟩, rfl⟩ (by decide) (by decide)
    | succ f ih =>
      intro t I' ht g1 g2 g3 g4
      refine w_iload_n dX7_lays_68 rfl ?_
      refine w_aload_n dX7_lays_69 rfl ?_
      refine y_callV dX7_lays_70 lk_X7_286 [] rfl (m_positions E l hR (hcn.l g1).1 n2) (g_recv.obj (ci := 7) rfl (by decide) (show 79 < N by omega)) rfl ⟨⟨by decide, by decide⟩, by decide, by decide⟩ (lb rfl) ?_
      refine w_iconst (v := 4) dX7_lays_73 (by decide) ?_
      refine w_imul dX7_lays_74 ?_
      rw [e4]
      refine w_icmp_ge (tgt := 89) dX7_lays_75 (by decide) (fun c_75 => absurd c_75 ((nI_ge (by omega) (by omega)))) (fun c_75 => ?_)
      refine w_aload_n dX7_lays_78 rfl ?_
      refine w_iload_n dX7_lays_79 rfl ?_
      refine u_callV dX7_lays_80 lk_X7_289 [.int (nI t)] rfl (m_laysPosition E l hR hru (hcn.l g1) (hw.l g1) g2 (by omega) (by omega) g4) (g_recv.obj (ci := 7) rfl (by decide) (show 79 < N by omega)) rfl ⟨⟨by decide, by decide⟩, by decide, by decide⟩ (lb rfl) (fun I2 h_80 => ?_)
      obtain ⟨k1, k2, k3⟩ := h_80
      refine w_iinc (v := nI (t + 1)) dX7_lays_83 rfl (nI_inc _) (by decide) rfl ?_
      refine w_goto (tgt := 68) dX7_lays_86 (by decide) ?_
      refine w_lv [1, 0] (ih (t + 1) I2 (by omega) (g1.trans k1.l) k2 ?_ k3)
      obtain ⟨c1, c2, c3, c4, c5, c6⟩ := g3
      exact ⟨by rw [k1.2 40 (by decide) (by decide) (by decide) (by decide)]; exact c1, c2, c3, by rw [k1.2 38 (by decide) (by decide) (by decide) (by decide)]; exact c4, by rw [k1.2 39 (by decide) (by decide) (by decide) (by decide)]; exact c5, fun h hh => by rw [k1.1 99 (by decide) (by decide) (by decide)]; exact c6 h hh⟩
  have s36 : ∀ (f k : Nat) (I' : Nat → Nat → Int32), k + f = rs.length → frL2 I I' → rdM I' r → I' 79 40 = 1 → I' 79 38 = nI rs.length → I' 79 39 = b2i mi → (∀ h, h < k → I' 99 h = nI (rs.getD h 0)) → g_Wp E l mX7_lays { frames := 4, cells := 0, slots := 0, locals := 93 } (g_Fin E (g_rv (fun I' => frL2 I I' ∧ (∃ r', r' ≤ r + 262144 ∧ rdM I' r') ∧ cfM I' nr rs mi ∧ tbM I' (cfOf ru rs mi) (4 * 16 ^ rs.length)) J R D N ex) 0 0) 0 0 36 [(1, .int (nI k)), (0, .ref 79)] [] (I', J, R, D, N, ex) := by
    intro f
    induction f with
    | zero =>
      intro k I' hk g1 g2 g3 g4 g5 g6
      obtain rfl : k = rs.length := by omega
      refine w_iload_n dX7_lays_36 rfl ?_
      refine w_aload_n dX7_lays_37 rfl ?_
      refine x_getr (ci := 7) (k := 0) (a := 80) dX7_lays_38 rfl (by decide) (by decide) (by omega) fl_X7_7 (Or.inr ⟨_, rfl⟩) hR.2.1 ?_
      refine w_iconst (v := 0) dX7_lays_41 (by decide) ?_
      refine x_iald (j := 0) dX7_lays_42 rfl (by omega) rfl (show 0 < 172 by decide) ?_
      rw [(hcn.l g1).1]
      refine w_icmp_ge (tgt := 66) dX7_lays_43 (by decide) (fun c_43 => ?_) (fun c_43 => absurd ((nI_le (by omega) (by omega))) c_43)
      refine w_iconst (v := 0) dX7_lays_66 (by decide) ?_
      refine w_istore_n dX7_lays_67 (by decide) rfl ?_
      exact w_lv [1, 0] (s68 (4 * 16 ^ rs.length) 0 I' (by omega) g1 g2 ⟨g3, n2, hcn.2.2.1, g4, g5, g6⟩ (fun t ht => absurd ht (Nat.not_lt_zero t)))
    | succ f ih =>
      intro k I' hk g1 g2 g3 g4 g5 g6
      have hkr : k < rs.length := by omega
      refine w_iload_n dX7_lays_36 rfl ?_
      refine w_aload_n dX7_lays_37 rfl ?_
      refine x_getr (ci := 7) (k := 0) (a := 80) dX7_lays_38 rfl (by decide) (by decide) (by omega) fl_X7_7 (Or.inr ⟨_, rfl⟩) hR.2.1 ?_
      refine w_iconst (v := 0) dX7_lays_41 (by decide) ?_
      refine x_iald (j := 0) dX7_lays_42 rfl (by omega) rfl (show 0 < 172 by decide) ?_
      rw [(hcn.l g1).1]
      refine w_icmp_ge (tgt := 66) dX7_lays_43 (by decide) (fun c_43 => absurd c_43 ((nI_ge (by omega) (by omega)))) (fun c_43 => ?_)
      refine w_aload_n dX7_lays_46 rfl ?_
      refine x_getr (ci := 7) (k := 37) (a := 99) dX7_lays_47 rfl (by decide) (by decide) (by omega) fl_X7_70 (Or.inr ⟨_, rfl⟩) hR.2.2.2.2.2.2.2.2.2.2.2.2.2.2.2.2.2.2.2.2 ?_
      refine w_iload_n dX7_lays_50 rfl ?_
      refine w_aload_n dX7_lays_51 rfl ?_
      refine x_getr (ci := 7) (k := 0) (a := 80) dX7_lays_52 rfl (by decide) (by decide) (by omega) fl_X7_7 (Or.inr ⟨_, rfl⟩) hR.2.1 ?_
      refine w_iconst (v := 1) dX7_lays_55 (by decide) ?_
      refine w_iload_n dX7_lays_56 rfl ?_
      refine w_iadd dX7_lays_57 ?_
      rw [show (1 : Int32) + nI k = nI (1 + k) from by rw [← nI_add]; rfl]
      refine x_iald (j := 1 + k) dX7_lays_58 rfl (by omega) rfl (show 1 + k < 172 by omega) ?_
      rw [(hcn.l g1).2.2.2.2.1 k hkr]
      refine x_iast (j := k) dX7_lays_59 rfl (by omega) rfl (show k < 4 by omega) ?_
      refine w_iinc (v := nI (k + 1)) dX7_lays_60 rfl (nI_inc _) (by decide) rfl ?_
      refine w_goto (tgt := 36) dX7_lays_63 (by decide) ?_
      refine w_lv [1, 0] (ih (k + 1) _ (by omega) (g1.trans ⟨fun o _ _ _ d => by funext j; exact up2_n _ _ (by simp [d]), fun j _ _ => up2_n _ _ (by simp)⟩) ⟨by rw [up2_n _ _ (by simp)]; exact g2.1, fun v hv => by rw [up2_n _ _ (by simp)]; exact g2.2 v hv⟩ (by rw [up2_n _ _ (by simp)]; exact g3) (by rw [up2_n _ _ (by simp)]; exact g4) (by rw [up2_n _ _ (by simp)]; exact g5) (fun h hh => ?_))
      rcases Nat.lt_or_ge h k with z | z
      · rw [up2_n _ _ (by omega)]; exact g6 h z
      · obtain rfl : h = k := by omega
        exact up2_s ..
  have f8 : frL2 I (up2 (up2 (up2 I 79 40 1) 79 38 (nI rs.length)) 79 39 (b2i mi)) := ⟨fun o a _ _ _ => by funext j; rw [up2_n _ _ (by simp [a]), up2_n _ _ (by simp [a]), up2_n _ _ (by simp [a])], fun k _ b => by rw [up2_n _ _ (by omega), up2_n _ _ (by omega), up2_n _ _ (by omega)]⟩
  have s8 : g_Wp E l mX7_lays { frames := 4, cells := 0, slots := 0, locals := 93 } (g_Fin E (g_rv (fun I' => frL2 I I' ∧ (∃ r', r' ≤ r + 262144 ∧ rdM I' r') ∧ cfM I' nr rs mi ∧ tbM I' (cfOf ru rs mi) (4 * 16 ^ rs.length)) J R D N ex) 0 0) 0 0 8 [(0, .ref 79)] [] (I, J, R, D, N, ex) := by
    refine w_aload_n dX7_lays_8 rfl ?_
    refine w_iconst (v := 1) dX7_lays_9 (by decide) ?_
    refine x_putz (ci := 7) (k := 40) dX7_lays_10 rfl (by decide) (by decide) (by omega) fl_X7_268 rfl rfl (by decide) ?_
    refine w_aload_n dX7_lays_13 rfl ?_
    refine w_aload_n dX7_lays_14 rfl ?_
    refine x_getr (ci := 7) (k := 0) (a := 80) dX7_lays_15 rfl (by decide) (by decide) (by omega) fl_X7_7 (Or.inr ⟨_, rfl⟩) hR.2.1 ?_
    refine w_iconst (v := 0) dX7_lays_18 (by decide) ?_
    refine x_iald (j := 0) dX7_lays_19 rfl (by omega) rfl (show 0 < 172 by decide) ?_
    refine w_st (show _ = [.int (nI rs.length), .ref 79] from by rw [up2_n _ _ (by simp), hcn.1]) ?_
    refine x_puti (ci := 7) (k := 38) dX7_lays_20 rfl (by decide) (by decide) (by omega) fl_X7_277 rfl rfl ?_
    refine w_aload_n dX7_lays_23 rfl ?_
    refine w_aload_n dX7_lays_24 rfl ?_
    refine x_getr (ci := 7) (k := 0) (a := 80) dX7_lays_25 rfl (by decide) (by decide) (by omega) fl_X7_7 (Or.inr ⟨_, rfl⟩) hR.2.1 ?_
    refine w_bipush (v := 10) dX7_lays_28 (by decide) ?_
    refine x_iald (j := 10) dX7_lays_30 rfl (by omega) rfl (show 10 < 172 by decide) ?_
    refine w_st (show _ = [.int (b2i mi), .ref 79] from by rw [up2_n _ _ (by simp), up2_n _ _ (by simp), hcn.2.2.2.2.2]) ?_
    refine x_puti (ci := 7) (k := 39) dX7_lays_31 rfl (by decide) (by decide) (by omega) fl_X7_280 rfl rfl ?_
    refine w_iconst (v := 0) dX7_lays_34 (by decide) ?_
    refine w_istore_n dX7_lays_35 (by decide) rfl ?_
    exact w_lv [1, 0] (s36 rs.length 0 _ (by omega) f8 ⟨by rw [up2_n _ _ (by simp), up2_n _ _ (by simp), up2_n _ _ (by simp)]; exact hr.1, fun v hv => by rw [up2_n _ _ (by simp), up2_n _ _ (by simp), up2_n _ _ (by simp)]; exact hr.2 v hv⟩ (by rw [up2_n _ _ (by simp), up2_n _ _ (by simp), up2_s]) (by rw [up2_n _ _ (by simp), up2_s]) (up2_s ..) (fun h hh => absurd hh (Nat.not_lt_zero h)))
  rcases hl with hl | ⟨rs', mi', c1, c2⟩
  · refine w_aload_n dX7_lays_0 rfl ?_
    refine y_callV dX7_lays_1 lk_X7_283 [] rfl (m_isLaidSo_0 E l hR hl) (g_recv.obj (ci := 7) rfl (by decide) (show 79 < N by omega)) rfl ⟨⟨by decide, by decide⟩, by decide, by decide⟩ (lb rfl) ?_
    refine w_if_eq (tgt := 8) dX7_lays_4 (by decide) (fun c_4 => ?_) (fun c_4 => absurd (rfl) c_4)
    exact s8
  · by_cases he : rs' = rs ∧ mi' = mi
    · obtain ⟨rfl, rfl⟩ := he
      refine w_aload_n dX7_lays_0 rfl ?_
      refine y_callV dX7_lays_1 lk_X7_283 [] rfl (m_isLaidSo E l hR hcn c1) (g_recv.obj (ci := 7) rfl (by decide) (show 79 < N by omega)) rfl ⟨⟨by decide, by decide⟩, by decide, by decide⟩ (lb rfl) ?_
      rw [decide_eq_true ⟨rfl, rfl⟩]
      refine w_if_eq (tgt := 8) dX7_lays_4 (by decide) (fun c_4 => absurd c_4 ((by decide))) (fun c_4 => ?_)
      refine w_vret dX7_lays_7 rfl ⟨_, rfl, ⟨frL2.refl I, ⟨r, by omega, hr⟩, c1, c2⟩, rfl⟩ (by decide) (by decide)
    · refine w_aload_n dX7_lays_0 rfl ?_
      refine y_callV dX7_lays_1 lk_X7_283 [] rfl (m_isLaidSo E l hR hcn c1) (g_recv.obj (ci := 7) rfl (by decide) (show 79 < N by omega)) rfl ⟨⟨by decide, by decide⟩, by decide, by decide⟩ (lb rfl) ?_
      rw [decide_eq_false he]
      refine w_if_eq (tgt := 8) dX7_lays_4 (by decide) (fun c_4 => ?_) (fun c_4 => absurd (rfl) c_4)
      exact s8
end ML
