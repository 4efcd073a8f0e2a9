/-! HeapGamesModel: nextToken, must and on -/
theorem runE_n {tx : Nat → Nat} {L k : Nat} (hk : k ≠ 0) : ∀ f i, i + f = L → kb tx L (runE tx L k f i) ≠ k
  | 0, i, h => by
    obtain rfl : i = L := by omega
    rw [runE]
    intro q
    exact hk (q.symm.trans (kb_0.mpr (Nat.le_refl _)))
  | f + 1, i, h => by
    rw [runE]
    split
    · exact runE_n hk f (i + 1) (by omega)
    · assumption
theorem bAt_sp {tx : Nat → Nat} {L i : Nat} (h : ∀ i, i < L → tx i < 256) : bAt tx L i = 32 ↔ i < L ∧ tx i = 32 := by
  unfold bAt
  by_cases hi : i < L
  · have := h i hi
    rw [if_pos hi]
    exact ⟨fun q => ⟨hi, n_eq (b := 32) q⟩, fun q => by rw [q.2]; rfl⟩
  · rw [if_neg hi]
    exact ⟨fun q => absurd q (by decide), fun q => absurd q.1 hi⟩
theorem wl_8 : ∀ i, i < 10 → wl i ≤ 8 := by decide
section MTn
variable (E : GE) (l : Launch)
variable {I : Nat → Nat → Int32} {J : Nat → Nat → Int64} {R : Nat → Nat → Option Nat} {D : Nat → Nat → UInt64} {N : Nat} {ex : Bool} {tx : Nat → Nat} {L a : Nat}
set_option maxRecDepth 100000 in
theorem m_nextToken (hR : lkM R N) (hr : mtx I tx L) (ha : a ≤ L) (h25 : I 79 25 = nI a) : g_Ct E l mX7_nextToken 2 41 0 0 [.ref 79] (I, J, R, D, N, ex) (g_rk (fun I' J' => frN I I' J J' ∧ mtC I' J' tx L a) R D N ex) := by
  refine g_Ct.of (by decide +kernel) (lb rfl) ?_
  have hN := hR.1
  have hL := hr.2.1
  have ht := fun i hi => (hr.2.2 i hi).1
  have hb := tk_b (tx := tx) ha
  have hk4 : tkK tx L a ≤ 4 := kb_le _ _ _
  have s26 : ∀ I' : Nat → Nat → Int32, frN I I' J J → I' 79 25 = nI (tkS tx L a) → g_Wp E l mX7_nextToken { frames := 2, cells := 0, slots := 0, locals := 41 } (g_Fin E (g_rk (fun I' J' => frN I I' J J' ∧ mtC I' J' tx L a) R D N ex) 0 0) 0 0 26 [(0, .ref 79)] [] (I', J, R, D, N, ex) := by
    intro I' g1 g2
    have g3 := g1.up (k := 24) (by decide) (nI (tkS tx L a))
    have r3 := hr.n g3
    have e25 : up2 I' 79 24 (nI (tkS tx L a)) 79 25 = nI (tkS tx L a) := by rw [up2_n _ _ (by simp)]; exact g2
    generalize hI3 : up2 I' 79 24 (nI (tkS tx L a)) = I3 at *
    have e24 : I3 79 24 = nI (tkS tx L a) := by rw [← hI3]; exact up2_s ..
    have hkk : tkK tx L a = kb tx L (tkS tx L a) := rfl
    by_cases h0 : tkK tx L a = 0
    · have hSL : tkS tx L a = L := by have := kb_0.mp (hkk.symm.trans h0); omega
      have hE : tkE tx L a = tkS tx L a := by unfold tkE; rw [if_pos h0]
      have hm0 : mtk tx L a = 0 := mtk_0.mpr h0
      refine w_aload_n dX7_nextToken_26 rfl ?_
      refine w_aload_n dX7_nextToken_27 rfl ?_
      refine x_geti (ci := 7) (k := 25) dX7_nextToken_28 rfl (by decide) (by decide) (by omega) fl_X7_126 rfl ?_
      rw [g2]
      refine x_puti (ci := 7) (k := 24) dX7_nextToken_31 rfl (by decide) (by decide) (by omega) fl_X7_136 rfl rfl ?_
      rw [hI3]
      refine w_aload_n dX7_nextToken_34 rfl ?_
      refine w_aload_n dX7_nextToken_35 rfl ?_
      refine x_geti (ci := 7) (k := 24) dX7_nextToken_36 rfl (by decide) (by decide) (by omega) fl_X7_136 rfl ?_
      rw [e24]
      refine y_callV dX7_nextToken_39 lk_X7_129 [.int (nI (tkS tx L a))] rfl (m_byteAt E l hR r3 (show tkS tx L a < 1000 by omega)) (g_recv.obj (ci := 7) rfl (by decide) (show 79 < N by omega)) rfl ⟨⟨by decide, by decide⟩, by decide, by decide⟩ (lb rfl) ?_
      refine w_istore_n dX7_nextToken_42 (by decide) rfl ?_
      refine w_aload_n dX7_nextToken_43 rfl ?_
      refine x_geti (ci := 7) (k := 24) dX7_nextToken_44 rfl (by decide) (by decide) (by omega) fl_X7_136 rfl ?_
      rw [e24]
      refine w_aload_n dX7_nextToken_47 rfl ?_
      refine x_geti (ci := 7) (k := 23) dX7_nextToken_48 rfl (by decide) (by decide) (by omega) fl_X7_119 rfl ?_
      rw [r3.1]
      refine w_icmp_lt (tgt := 62) dX7_nextToken_51 (by decide) (fun c_51 => absurd c_51 ((nI_nlt (by omega) (by omega)))) (fun c_51 => ?_)
      refine w_aload_n dX7_nextToken_54 rfl ?_
      refine w_iconst (v := 0) dX7_nextToken_55 (by decide) ?_
      refine x_puti (ci := 7) (k := 26) dX7_nextToken_56 rfl (by decide) (by decide) (by omega) fl_X7_143 rfl rfl ?_
      refine w_goto (tgt := 115) dX7_nextToken_59 (by decide) ?_
      refine w_vret dX7_nextToken_115 rfl ⟨_, _, rfl, ⟨g3.up (by decide) _, by rw [up2_n _ _ (by simp)]; exact e24, by rw [up2_n _ _ (by simp), hE]; exact e25, by rw [up2_s, hm0]; rfl, (fun q => by rw [hm0] at q; cases q), (fun q => by rw [hm0] at q; cases q)⟩, rfl⟩ (by decide) (by decide)
    · have hSL : tkS tx L a < L := by
        rcases Nat.lt_or_ge (tkS tx L a) L with z | z
        · exact z
        · exact absurd (kb_0.mpr z) h0
      by_cases h1 : tkK tx L a = 1
      · have hE : tkE tx L a = runE tx L 1 (L - (tkS tx L a + 1)) (tkS tx L a + 1) := by unfold tkE; rw [if_neg h0, if_pos (Or.inl h1), h1]
        have hne : kb tx L (tkE tx L a) ≠ 1 := by rw [hE]; exact runE_n (by decide) _ _ (by omega)
        have hall : ∀ j, tkS tx L a ≤ j → j < tkE tx L a → kb tx L j = 1 := fun j q1 q2 => (tk_k (Or.inl h1) q1 q2).trans h1
        have hmt : mtk tx L a = if 8 < tkE tx L a - tkS tx L a then 4 else 1 := by unfold mtk tkN; rw [if_pos h1]
        refine w_aload_n dX7_nextToken_26 rfl ?_
        refine w_aload_n dX7_nextToken_27 rfl ?_
        refine x_geti (ci := 7) (k := 25) dX7_nextToken_28 rfl (by decide) (by decide) (by omega) fl_X7_126 rfl ?_
        rw [g2]
        refine x_puti (ci := 7) (k := 24) dX7_nextToken_31 rfl (by decide) (by decide) (by omega) fl_X7_136 rfl rfl ?_
        rw [hI3]
        refine w_aload_n dX7_nextToken_34 rfl ?_
        refine w_aload_n dX7_nextToken_35 rfl ?_
        refine x_geti (ci := 7) (k := 24) dX7_nextToken_36 rfl (by decide) (by decide) (by omega) fl_X7_136 rfl ?_
        rw [e24]
        refine y_callV dX7_nextToken_39 lk_X7_129 [.int (nI (tkS tx L a))] rfl (m_byteAt E l hR r3 (show tkS tx L a < 1000 by omega)) (g_recv.obj (ci := 7) rfl (by decide) (show 79 < N by omega)) rfl ⟨⟨by decide, by decide⟩, by decide, by decide⟩ (lb rfl) ?_
        refine w_istore_n dX7_nextToken_42 (by decide) rfl ?_
        refine w_aload_n dX7_nextToken_43 rfl ?_
        refine x_geti (ci := 7) (k := 24) dX7_nextToken_44 rfl (by decide) (by decide) (by omega) fl_X7_136 rfl ?_
        rw [e24]
        refine w_aload_n dX7_nextToken_47 rfl ?_
        refine x_geti (ci := 7) (k := 23) dX7_nextToken_48 rfl (by decide) (by decide) (by omega) fl_X7_119 rfl ?_
        rw [r3.1]
        refine w_icmp_lt (tgt := 62) dX7_nextToken_51 (by decide) (fun c_51 => ?_) (fun c_51 => absurd ((nI_lt (by omega) (by omega))) c_51)
        refine w_iload_n dX7_nextToken_62 rfl ?_
        refine y_callS dX7_nextToken_63 lk_X7_133 [.int (bAt tx L (tkS tx L a))] rfl (m_isLetter E l _ _) rfl ⟨⟨by decide, by decide⟩, by decide, by decide⟩ (lb rfl) ?_
        rw [decide_eq_true ((bAt_l ht).mpr h1)]
        refine w_if_eq (tgt := 76) dX7_nextToken_66 (by decide) (fun c_66 => absurd c_66 ((by decide))) (fun c_66 => ?_)
        refine w_aload_n dX7_nextToken_69 rfl ?_
        refine k_callV dX7_nextToken_70 lk_X7_152 [] rfl (m_readsWord E l hR r3 e24 e25 hb.2.2.1 hb.2.2.2.1 hall hne) (g_recv.obj (ci := 7) rfl (by decide) (show 79 < N by omega)) rfl ⟨⟨by decide, by decide⟩, by decide, by decide⟩ (lb rfl) (fun I4 J4 h_70 => ?_)
        obtain ⟨f1, f2, f3, f4, f5⟩ := h_70
        refine w_goto (tgt := 115) dX7_nextToken_73 (by decide) ?_
        refine w_vret dX7_nextToken_115 rfl ⟨_, _, rfl, ⟨g3.trans f1, f2, f3, by rw [f4, hmt], fun q => by rw [f5]; congr 1; exact (mw_na _ 8 (by have := of_decide_eq_true (mtk_1.mp q); unfold tkN at this; omega) (by have := of_decide_eq_true (mtk_1.mp q); unfold tkN at this; omega) (fun j hj => by have := kb_1 (hall (tkS tx L a + j) (by omega) (by omega)); omega)).symm, fun q => by rw [hmt] at q; split at q <;> cases q⟩, rfl⟩ (by decide) (by decide)
      · by_cases h2 : tkK tx L a = 2
        · have hE : tkE tx L a = runE tx L 2 (L - (tkS tx L a + 1)) (tkS tx L a + 1) := by unfold tkE; rw [if_neg h0, if_pos (Or.inr h2), h2]
          have hne : kb tx L (tkE tx L a) ≠ 2 := by rw [hE]; exact runE_n (by decide) _ _ (by omega)
          have hall : ∀ j, tkS tx L a ≤ j → j < tkE tx L a → kb tx L j = 2 := fun j q1 q2 => (tk_k (Or.inr h2) q1 q2).trans h2
          have hmt : mtk tx L a = if 2 < tkE tx L a - tkS tx L a then 4 else 2 := by unfold mtk tkN; rw [if_neg h1, if_pos h2]
          refine w_aload_n dX7_nextToken_26 rfl ?_
          refine w_aload_n dX7_nextToken_27 rfl ?_
          refine x_geti (ci := 7) (k := 25) dX7_nextToken_28 rfl (by decide) (by decide) (by omega) fl_X7_126 rfl ?_
          rw [g2]
          refine x_puti (ci := 7) (k := 24) dX7_nextToken_31 rfl (by decide) (by decide) (by omega) fl_X7_136 rfl rfl ?_
          rw [hI3]
          refine w_aload_n dX7_nextToken_34 rfl ?_
          refine w_aload_n dX7_nextToken_35 rfl ?_
          refine x_geti (ci := 7) (k := 24) dX7_nextToken_36 rfl (by decide) (by decide) (by omega) fl_X7_136 rfl ?_
          rw [e24]
          refine y_callV dX7_nextToken_39 lk_X7_129 [.int (nI (tkS tx L a))] rfl (m_byteAt E l hR r3 (show tkS tx L a < 1000 by omega)) (g_recv.obj (ci := 7) rfl (by decide) (show 79 < N by omega)) rfl ⟨⟨by decide, by decide⟩, by decide, by decide⟩ (lb rfl) ?_
          refine w_istore_n dX7_nextToken_42 (by decide) rfl ?_
          refine w_aload_n dX7_nextToken_43 rfl ?_
          refine x_geti (ci := 7) (k := 24) dX7_nextToken_44 rfl (by decide) (by decide) (by omega) fl_X7_136 rfl ?_
          rw [e24]
          refine w_aload_n dX7_nextToken_47 rfl ?_
          refine x_geti (ci := 7) (k := 23) dX7_nextToken_48 rfl (by decide) (by decide) (by omega) fl_X7_119 rfl ?_
          rw [r3.1]
          refine w_icmp_lt (tgt := 62) dX7_nextToken_51 (by decide) (fun c_51 => ?_) (fun c_51 => absurd ((nI_lt (by omega) (by omega))) c_51)
          refine w_iload_n dX7_nextToken_62 rfl ?_
          refine y_callS dX7_nextToken_63 lk_X7_133 [.int (bAt tx L (tkS tx L a))] rfl (m_isLetter E l _ _) rfl ⟨⟨by decide, by decide⟩, by decide, by decide⟩ (lb rfl) ?_
          rw [decide_eq_false (fun q => h1 ((bAt_l ht).mp q))]
          refine w_if_eq (tgt := 76) dX7_nextToken_66 (by decide) (fun c_66 => ?_) (fun c_66 => absurd (rfl) c_66)
          refine w_iload_n dX7_nextToken_76 rfl ?_
          refine y_callS dX7_nextToken_77 lk_X7_149 [.int (bAt tx L (tkS tx L a))] rfl (m_isDigit E l _ _) rfl ⟨⟨by decide, by decide⟩, by decide, by decide⟩ (lb rfl) ?_
          rw [decide_eq_true ((bAt_d ht).mpr h2)]
          refine w_if_eq (tgt := 90) dX7_nextToken_80 (by decide) (fun c_80 => absurd c_80 ((by decide))) (fun c_80 => ?_)
          refine w_aload_n dX7_nextToken_83 rfl ?_
          refine u_callV dX7_nextToken_84 lk_X7_155 [] rfl (m_readsNumber E l hR r3 e24 e25 hb.2.2.1 hb.2.2.2.1 hall hne) (g_recv.obj (ci := 7) rfl (by decide) (show 79 < N by omega)) rfl ⟨⟨by decide, by decide⟩, by decide, by decide⟩ (lb rfl) (fun I4 h_84 => ?_)
          obtain ⟨f1, f2, f3, f4, f5⟩ := h_84
          refine w_goto (tgt := 115) dX7_nextToken_87 (by decide) ?_
          refine w_vret dX7_nextToken_115 rfl ⟨_, _, rfl, ⟨g3.trans f1, f2, f3, by rw [f4, hmt], (fun q => by rw [hmt] at q; split at q <;> cases q), fun q => by rw [f5]; congr 1; exact nv_nm _ (by have := of_decide_eq_true (mtk_2.mp q); unfold tkN at this; omega)⟩, rfl⟩ (by decide) (by decide)
        · have hE : tkE tx L a = tkS tx L a + 1 := by unfold tkE; rw [if_neg h0, if_neg (by omega)]
          have hmt : mtk tx L a = tkK tx L a := by unfold mtk; rw [if_neg h1, if_neg h2]
          have fin : ∀ v : Int32, v = nI (tkK tx L a) → frN I (up2 (up2 I3 79 26 v) 79 25 (nI (tkS tx L a + 1))) J J ∧ mtC (up2 (up2 I3 79 26 v) 79 25 (nI (tkS tx L a + 1))) J tx L a := fun v hv => ⟨(g3.up (by decide) _).up (by decide) _, by rw [up2_n _ _ (by simp), up2_n _ _ (by simp)]; exact e24, by rw [up2_s, hE], by rw [up2_n _ _ (by simp), up2_s, hmt]; exact hv, fun q => absurd (hmt.symm.trans q) h1, fun q => absurd (hmt.symm.trans q) h2⟩
          have hsc : bAt tx L (tkS tx L a) = 59 ↔ tkK tx L a = 3 := by
            have h256 := ht _ hSL
            rw [hkk]
            unfold bAt kb
            rw [if_pos hSL, if_pos hSL]
            constructor
            · intro q
              have e : tx (tkS tx L a) = 59 := n_eq (b := 59) q
              rw [e]; decide
            · intro q
              have e : tx (tkS tx L a) = 59 := by
                split at q
                · cases q
                · split at q
                  · cases q
                  · split at q
                    · assumption
                    · cases q
              rw [e]; rfl
          refine w_aload_n dX7_nextToken_26 rfl ?_
          refine w_aload_n dX7_nextToken_27 rfl ?_
          refine x_geti (ci := 7) (k := 25) dX7_nextToken_28 rfl (by decide) (by decide) (by omega) fl_X7_126 rfl ?_
          rw [g2]
          refine x_puti (ci := 7) (k := 24) dX7_nextToken_31 rfl (by decide) (by decide) (by omega) fl_X7_136 rfl rfl ?_
          rw [hI3]
          refine w_aload_n dX7_nextToken_34 rfl ?_
          refine w_aload_n dX7_nextToken_35 rfl ?_
          refine x_geti (ci := 7) (k := 24) dX7_nextToken_36 rfl (by decide) (by decide) (by omega) fl_X7_136 rfl ?_
          rw [e24]
          refine y_callV dX7_nextToken_39 lk_X7_129 [.int (nI (tkS tx L a))] rfl (m_byteAt E l hR r3 (show tkS tx L a < 1000 by omega)) (g_recv.obj (ci := 7) rfl (by decide) (show 79 < N by omega)) rfl ⟨⟨by decide, by decide⟩, by decide, by decide⟩ (lb rfl) ?_
          refine w_istore_n dX7_nextToken_42 (by decide) rfl ?_
          refine w_aload_n dX7_nextToken_43 rfl ?_
          refine x_geti (ci := 7) (k := 24) dX7_nextToken_44 rfl (by decide) (by decide) (by omega) fl_X7_136 rfl ?_
          rw [e24]
          refine w_aload_n dX7_nextToken_47 rfl ?_
          refine x_geti (ci := 7) (k := 23) dX7_nextToken_48 rfl (by decide) (by decide) (by omega) fl_X7_119 rfl ?_
          rw [r3.1]
          refine w_icmp_lt (tgt := 62) dX7_nextToken_51 (by decide) (fun c_51 => ?_) (fun c_51 => absurd ((nI_lt (by omega) (by omega))) c_51)
          refine w_iload_n dX7_nextToken_62 rfl ?_
          refine y_callS dX7_nextToken_63 lk_X7_133 [.int (bAt tx L (tkS tx L a))] rfl (m_isLetter E l _ _) rfl ⟨⟨by decide, by decide⟩, by decide, by decide⟩ (lb rfl) ?_
          rw [decide_eq_false (fun q => h1 ((bAt_l ht).mp q))]
          refine w_if_eq (tgt := 76) dX7_nextToken_66 (by decide) (fun c_66 => ?_) (fun c_66 => absurd (rfl) c_66)
          refine w_iload_n dX7_nextToken_76 rfl ?_
          refine y_callS dX7_nextToken_77 lk_X7_149 [.int (bAt tx L (tkS tx L a))] rfl (m_isDigit E l _ _) rfl ⟨⟨by decide, by decide⟩, by decide, by decide⟩ (lb rfl) ?_
          rw [decide_eq_false (fun q => h2 ((bAt_d ht).mp q))]
          refine w_if_eq (tgt := 90) dX7_nextToken_80 (by decide) (fun c_80 => ?_) (fun c_80 => absurd (rfl) c_80)
          refine w_aload_n dX7_nextToken_90 rfl ?_
          refine w_iload_n dX7_nextToken_91 rfl ?_
          refine w_bipush (v := 59) dX7_nextToken_92 (by decide) ?_
          refine w_icmp_ne (tgt := 101) dX7_nextToken_94 (by decide) (fun c_94 => ?_) (fun c_94 => ?_)
          · refine w_iconst (v := 4) dX7_nextToken_101 (by decide) ?_
            refine x_puti (ci := 7) (k := 26) dX7_nextToken_102 rfl (by decide) (by decide) (by omega) fl_X7_143 rfl rfl ?_
            refine w_aload_n dX7_nextToken_105 rfl ?_
            refine w_dup dX7_nextToken_106 rfl ?_
            refine x_geti (ci := 7) (k := 25) dX7_nextToken_107 rfl (by decide) (by decide) (by omega) fl_X7_126 rfl ?_
            refine w_st (show _ = [.int (nI (tkS tx L a)), .ref 79] from by rw [up2_n _ _ (by simp), e25]) ?_
            refine w_iconst (v := 1) dX7_nextToken_110 (by decide) ?_
            refine w_iadd dX7_nextToken_111 ?_
            rw [nI_1]
            refine x_puti (ci := 7) (k := 25) dX7_nextToken_112 rfl (by decide) (by decide) (by omega) fl_X7_126 rfl rfl ?_
            refine w_vret dX7_nextToken_115 rfl (by first | exact ⟨_, _, rfl, fin 3 (by rw [hsc.mp c_94]; rfl), rfl⟩ | exact ⟨_, _, rfl, fin 4 (by have : tkK tx L a = 4 := (by have q3 : tkK tx L a ≠ 3 := (fun q => c_94 (hsc.mpr q)); omega); rw [this]; rfl), rfl⟩) (by decide) (by decide)
          · refine w_iconst (v := 3) dX7_nextToken_97 (by decide) ?_
            refine w_goto (tgt := 102) dX7_nextToken_98 (by decide) ?_
            refine x_puti (ci := 7) (k := 26) dX7_nextToken_102 rfl (by decide) (by decide) (by omega) fl_X7_143 rfl rfl ?_
            refine w_aload_n dX7_nextToken_105 rfl ?_
            refine w_dup dX7_nextToken_106 rfl ?_
            refine x_geti (ci := 7) (k := 25) dX7_nextToken_107 rfl (by decide) (by decide) (by omega) fl_X7_126 rfl ?_
            refine w_st (show _ = [.int (nI (tkS tx L a)), .ref 79] from by rw [up2_n _ _ (by simp), e25]) ?_
            refine w_iconst (v := 1) dX7_nextToken_110 (by decide) ?_
            refine w_iadd dX7_nextToken_111 ?_
            rw [nI_1]
            refine x_puti (ci := 7) (k := 25) dX7_nextToken_112 rfl (by decide) (by decide) (by omega) fl_X7_126 rfl rfl ?_
            refine w_vret dX7_nextToken_115 rfl (by first | exact ⟨_, _, rfl, fin 3 (by rw [hsc.mp c_94]; rfl), rfl⟩ | exact ⟨_, _, rfl, fin 4 (by have : tkK tx L a = 4 := (by have q3 : tkK tx L a ≠ 3 := (fun q => c_94 (hsc.mpr q)); omega); rw [this]; rfl), rfl⟩) (by decide) (by decide)
  have s0 : ∀ (f i : Nat) (I' : Nat → Nat → Int32), i + f = L → skp tx L f i = tkS tx L a → frN I I' J J → I' 79 25 = nI i → g_Wp E l mX7_nextToken { frames := 2, cells := 0, slots := 0, locals := 41 } (g_Fin E (g_rk (fun I' J' => frN I I' J J' ∧ mtC I' J' tx L a) R D N ex) 0 0) 0 0 0 [(0, .ref 79)] [] (I', J, R, D, N, ex) := by
    intro f
    induction f with
    | zero =>
      intro i I' hi hs g1 g2
      obtain rfl : i = L := by omega
      have hs' : i = tkS tx i a := hs
      refine w_aload_n dX7_nextToken_0 rfl ?_
      refine w_aload_n dX7_nextToken_1 rfl ?_
      refine x_geti (ci := 7) (k := 25) dX7_nextToken_2 rfl (by decide) (by decide) (by omega) fl_X7_126 rfl ?_
      rw [g2]
      refine y_callV dX7_nextToken_5 lk_X7_129 [.int (nI i)] rfl (m_byteAt E l hR (hr.n g1) (show i < 1000 by omega)) (g_recv.obj (ci := 7) rfl (by decide) (show 79 < N by omega)) rfl ⟨⟨by decide, by decide⟩, by decide, by decide⟩ (lb rfl) ?_
      refine w_bipush (v := 32) dX7_nextToken_8 (by decide) ?_
      refine w_icmp_ne (tgt := 26) dX7_nextToken_10 (by decide) (fun c_10 => ?_) (fun c_10 => absurd c_10 ((fun q => absurd ((bAt_sp ht).mp q).1 (Nat.lt_irrefl _))))
      exact w_lv [0] (s26 I' g1 (by rw [← hs']; exact g2))
    | succ f ih =>
      intro i I' hi hs g1 g2
      rw [skp] at hs
      by_cases hsp : tx i = 32
      · rw [if_pos hsp] at hs
        refine w_aload_n dX7_nextToken_0 rfl ?_
        refine w_aload_n dX7_nextToken_1 rfl ?_
        refine x_geti (ci := 7) (k := 25) dX7_nextToken_2 rfl (by decide) (by decide) (by omega) fl_X7_126 rfl ?_
        rw [g2]
        refine y_callV dX7_nextToken_5 lk_X7_129 [.int (nI i)] rfl (m_byteAt E l hR (hr.n g1) (show i < 1000 by omega)) (g_recv.obj (ci := 7) rfl (by decide) (show 79 < N by omega)) rfl ⟨⟨by decide, by decide⟩, by decide, by decide⟩ (lb rfl) ?_
        refine w_bipush (v := 32) dX7_nextToken_8 (by decide) ?_
        refine w_icmp_ne (tgt := 26) dX7_nextToken_10 (by decide) (fun c_10 => absurd (((bAt_sp ht).mpr ⟨by omega, hsp⟩)) c_10) (fun c_10 => ?_)
        refine w_aload_n dX7_nextToken_13 rfl ?_
        refine w_dup dX7_nextToken_14 rfl ?_
        refine x_geti (ci := 7) (k := 25) dX7_nextToken_15 rfl (by decide) (by decide) (by omega) fl_X7_126 rfl ?_
        rw [g2]
        refine w_iconst (v := 1) dX7_nextToken_18 (by decide) ?_
        refine w_iadd dX7_nextToken_19 ?_
        rw [nI_1]
        refine x_puti (ci := 7) (k := 25) dX7_nextToken_20 rfl (by decide) (by decide) (by omega) fl_X7_126 rfl rfl ?_
        refine w_goto (tgt := 0) dX7_nextToken_23 (by decide) ?_
        exact w_lv [0] (ih (i + 1) _ (by omega) hs (g1.up (by decide) _) (up2_s ..))
      · rw [if_neg hsp] at hs
        refine w_aload_n dX7_nextToken_0 rfl ?_
        refine w_aload_n dX7_nextToken_1 rfl ?_
        refine x_geti (ci := 7) (k := 25) dX7_nextToken_2 rfl (by decide) (by decide) (by omega) fl_X7_126 rfl ?_
        rw [g2]
        refine y_callV dX7_nextToken_5 lk_X7_129 [.int (nI i)] rfl (m_byteAt E l hR (hr.n g1) (show i < 1000 by omega)) (g_recv.obj (ci := 7) rfl (by decide) (show 79 < N by omega)) rfl ⟨⟨by decide, by decide⟩, by decide, by decide⟩ (lb rfl) ?_
        refine w_bipush (v := 32) dX7_nextToken_8 (by decide) ?_
        refine w_icmp_ne (tgt := 26) dX7_nextToken_10 (by decide) (fun c_10 => ?_) (fun c_10 => absurd c_10 ((fun q => hsp ((bAt_sp ht).mp q).2)))
        exact w_lv [0] (s26 I' g1 (by rw [← hs]; exact g2))
  exact s0 (L - a) a I (by omega) rfl (frN.refl I J) h25
set_option maxRecDepth 100000 in
theorem m_isGood (hR : lkM R N) {e : Nat} (h : I 79 28 = nI e) (he : e ≤ 5) : g_Ct E l mX7_isGood 0 0 0 0 [.ref 79] (I, J, R, D, N, ex) (g_is (some (.int (b2i (decide (e = 0))))) (I, J, R, D, N, ex)) := by
  refine g_Ct.of (by decide +kernel) (lb rfl) ?_
  have hN := hR.1
  refine w_aload_n dX7_isGood_0 rfl ?_
  refine x_geti (ci := 7) (k := 28) dX7_isGood_1 rfl (by decide) (by decide) (by omega) fl_X7_158 rfl ?_
  rw [h]
  refine w_if_ne (tgt := 11) dX7_isGood_4 (by decide) (fun c_4 => ?_) (fun c_4 => ?_)
  · refine w_iconst (v := 0) dX7_isGood_11 (by decide) ?_
    refine w_iret dX7_isGood_12 rfl rfl (by first | exact ⟨rt_f (decide_eq_false (fun q => c_4 (by rw [q]; rfl))), rfl⟩ | exact ⟨rt_t (decide_eq_true (n_eq (b := 0) c_4)), rfl⟩) (by decide) (by decide)
  · refine w_iconst (v := 1) dX7_isGood_7 (by decide) ?_
    refine w_goto (tgt := 12) dX7_isGood_8 (by decide) ?_
    refine w_iret dX7_isGood_12 rfl rfl (by first | exact ⟨rt_f (decide_eq_false (fun q => c_4 (by rw [q]; rfl))), rfl⟩ | exact ⟨rt_t (decide_eq_true (n_eq (b := 0) c_4)), rfl⟩) (by decide) (by decide)
set_option maxRecDepth 100000 in
theorem m_must_t (hR : lkM R N) (h : I 79 28 = nI 0) (k : Int32) : g_Ct E l mX7_must 1 20 0 0 [.ref 79, .int 1, .int k] (I, J, R, D, N, ex) (g_is (some (.int (b2i true))) (I, J, R, D, N, ex)) := by
  refine g_Ct.of (by decide +kernel) (lb rfl) ?_
  have hN := hR.1
  refine w_aload_n dX7_must_0 rfl ?_
  refine y_callV dX7_must_1 lk_X7_161 [] rfl (m_isGood E l hR h (by decide)) (g_recv.obj (ci := 7) rfl (by decide) (show 79 < N by omega)) rfl ⟨⟨by decide, by decide⟩, by decide, by decide⟩ (lb rfl) ?_
  refine w_if_eq (tgt := 24) dX7_must_4 (by decide) (fun c_4 => absurd c_4 ((by decide))) (fun c_4 => ?_)
  refine w_iload_n dX7_must_7 rfl ?_
  refine w_if_ne (tgt := 24) dX7_must_8 (by decide) (fun c_8 => ?_) (fun c_8 => absurd c_8 ((show ¬ (1 : Int32) = 0 from by decide)))
  refine w_aload_n dX7_must_24 rfl ?_
  refine y_callV dX7_must_25 lk_X7_161 [] rfl (m_isGood E l hR h (by decide)) (g_recv.obj (ci := 7) rfl (by decide) (show 79 < N by omega)) rfl ⟨⟨by decide, by decide⟩, by decide, by decide⟩ (lb rfl) ?_
  refine w_iret dX7_must_28 rfl rfl ⟨rfl, rfl⟩ (by decide) (by decide)
set_option maxRecDepth 100000 in
theorem m_must_f (hR : lkM R N) (h : I 79 28 = nI 0) {k : Nat} (hk : k ≠ 0 ∧ k ≤ 5) : g_Ct E l mX7_must 1 20 0 0 [.ref 79, .int 0, .int (nI k)] (I, J, R, D, N, ex) (g_is (some (.int (b2i false))) (up2 (up2 I 79 28 (nI k)) 79 29 (I 79 24), J, R, D, N, ex)) := by
  refine g_Ct.of (by decide +kernel) (lb rfl) ?_
  have hN := hR.1
  refine w_aload_n dX7_must_0 rfl ?_
  refine y_callV dX7_must_1 lk_X7_161 [] rfl (m_isGood E l hR h (by decide)) (g_recv.obj (ci := 7) rfl (by decide) (show 79 < N by omega)) rfl ⟨⟨by decide, by decide⟩, by decide, by decide⟩ (lb rfl) ?_
  refine w_if_eq (tgt := 24) dX7_must_4 (by decide) (fun c_4 => absurd c_4 ((by decide))) (fun c_4 => ?_)
  refine w_iload_n dX7_must_7 rfl ?_
  refine w_if_ne (tgt := 24) dX7_must_8 (by decide) (fun c_8 => absurd (rfl) c_8) (fun c_8 => ?_)
  refine w_aload_n dX7_must_11 rfl ?_
  refine w_iload_n dX7_must_12 rfl ?_
  refine x_puti (ci := 7) (k := 28) dX7_must_13 rfl (by decide) (by decide) (by omega) fl_X7_158 rfl rfl ?_
  refine w_aload_n dX7_must_16 rfl ?_
  refine w_aload_n dX7_must_17 rfl ?_
  refine x_geti (ci := 7) (k := 24) dX7_must_18 rfl (by decide) (by decide) (by omega) fl_X7_136 rfl ?_
  rw [up2_n _ _ (by simp)]
  refine x_puti (ci := 7) (k := 29) dX7_must_21 rfl (by decide) (by decide) (by omega) fl_X7_165 rfl rfl ?_
  refine w_aload_n dX7_must_24 rfl ?_
  refine y_callV dX7_must_25 lk_X7_161 [] rfl (m_isGood E l hR (e := k) (by rw [up2_n _ _ (by simp), up2_s]) hk.2) (g_recv.obj (ci := 7) rfl (by decide) (show 79 < N by omega)) rfl ⟨⟨by decide, by decide⟩, by decide, by decide⟩ (lb rfl) ?_
  rw [decide_eq_false hk.1]
  refine w_iret dX7_must_28 rfl rfl ⟨rfl, rfl⟩ (by decide) (by decide)
set_option maxRecDepth 100000 in
theorem m_must_b (hR : lkM R N) {e : Nat} (h : I 79 28 = nI e) (he : e ≠ 0 ∧ e ≤ 5) (x k : Int32) : g_Ct E l mX7_must 1 20 0 0 [.ref 79, .int x, .int k] (I, J, R, D, N, ex) (g_is (some (.int (b2i false))) (I, J, R, D, N, ex)) := by
  refine g_Ct.of (by decide +kernel) (lb rfl) ?_
  have hN := hR.1
  refine w_aload_n dX7_must_0 rfl ?_
  refine y_callV dX7_must_1 lk_X7_161 [] rfl (m_isGood E l hR h he.2) (g_recv.obj (ci := 7) rfl (by decide) (show 79 < N by omega)) rfl ⟨⟨by decide, by decide⟩, by decide, by decide⟩ (lb rfl) ?_
  rw [decide_eq_false he.1]
  refine w_if_eq (tgt := 24) dX7_must_4 (by decide) (fun c_4 => ?_) (fun c_4 => absurd (rfl) c_4)
  refine w_aload_n dX7_must_24 rfl ?_
  refine y_callV dX7_must_25 lk_X7_161 [] rfl (m_isGood E l hR h he.2) (g_recv.obj (ci := 7) rfl (by decide) (show 79 < N by omega)) rfl ⟨⟨by decide, by decide⟩, by decide, by decide⟩ (lb rfl) ?_
  rw [decide_eq_false he.1]
  refine w_iret dX7_must_28 rfl rfl ⟨rfl, rfl⟩ (by decide) (by decide)
set_option maxRecDepth 100000 in
theorem m_goOn_b (hR : lkM R N) {e : Nat} (h : I 79 28 = nI e) (he : e ≠ 0 ∧ e ≤ 5) : g_Ct E l mX7_goOn 3 62 0 0 [.ref 79] (I, J, R, D, N, ex) (g_is none (I, J, R, D, N, ex)) := by
  refine g_Ct.of (by decide +kernel) (lb rfl) ?_
  have hN := hR.1
  refine w_aload_n dX7_goOn_0 rfl ?_
  refine y_callV dX7_goOn_1 lk_X7_161 [] rfl (m_isGood E l hR h he.2) (g_recv.obj (ci := 7) rfl (by decide) (show 79 < N by omega)) rfl ⟨⟨by decide, by decide⟩, by decide, by decide⟩ (lb rfl) ?_
  rw [decide_eq_false he.1]
  refine w_if_eq (tgt := 11) dX7_goOn_4 (by decide) (fun c_4 => ?_) (fun c_4 => absurd (rfl) c_4)
  refine w_vret dX7_goOn_11 rfl ⟨rfl, rfl⟩ (by decide) (by decide)
set_option maxRecDepth 100000 in
theorem m_goOn (hR : lkM R N) (h : I 79 28 = nI 0) (hr : mtx I tx L) (ha : a ≤ L) (h25 : I 79 25 = nI a) : g_Ct E l mX7_goOn 3 62 0 0 [.ref 79] (I, J, R, D, N, ex) (g_rk (fun I' J' => frN I I' J J' ∧ mtC I' J' tx L a) R D N ex) := by
  refine g_Ct.of (by decide +kernel) (lb rfl) ?_
  have hN := hR.1
  refine w_aload_n dX7_goOn_0 rfl ?_
  refine y_callV dX7_goOn_1 lk_X7_161 [] rfl (m_isGood E l hR h (by decide)) (g_recv.obj (ci := 7) rfl (by decide) (show 79 < N by omega)) rfl ⟨⟨by decide, by decide⟩, by decide, by decide⟩ (lb rfl) ?_
  refine w_if_eq (tgt := 11) dX7_goOn_4 (by decide) (fun c_4 => absurd c_4 ((by decide))) (fun c_4 => ?_)
  refine w_aload_n dX7_goOn_7 rfl ?_
  refine k_callV dX7_goOn_8 lk_X7_168 [] rfl (m_nextToken E l hR hr ha h25) (g_recv.obj (ci := 7) rfl (by decide) (show 79 < N by omega)) rfl ⟨⟨by decide, by decide⟩, by decide, by decide⟩ (lb rfl) (fun I2 J2 h_8 => ?_)
  refine w_vret dX7_goOn_11 rfl ⟨_, _, rfl, h_8, rfl⟩ (by decide) (by decide)
set_option maxRecDepth 100000 in
theorem m_find (hR : lkM R N) {nr : Nat} (h : I 79 15 = nI nr) (h6 : nr ≤ 6) (x : Int64) : g_Ct E l mX7_find 0 0 0 0 [.ref 79, .long x] (I, J, R, D, N, ex) (g_is (some (.int (o2i (perF (fun k => decide (J 92 k = x)) nr 0)))) (I, J, R, D, N, ex)) := by
  refine g_Ct.of (by decide +kernel) (lb rfl) ?_
  have hN := hR.1
  generalize hQ : perF (fun k => decide (J 92 k = x)) nr 0 = Q
  have loop : ∀ f k : Nat, k + f = nr → perF (fun k => decide (J 92 k = x)) f k = Q → g_Wp E l mX7_find { frames := 0, cells := 0, slots := 0, locals := 0 } (g_Fin E (g_is (some (.int (o2i Q))) (I, J, R, D, N, ex)) 0 0) 0 0 2 [(3, .int (nI k)), (0, .ref 79), (1, .long x)] [] (I, J, R, D, N, ex) := by
    intro f
    induction f with
    | zero =>
      intro k hk hq
      obtain rfl : k = nr := by omega
      refine w_iload_n dX7_find_2 rfl ?_
      refine w_aload_n dX7_find_3 rfl ?_
      refine x_geti (ci := 7) (k := 15) dX7_find_4 rfl (by decide) (by decide) (by omega) fl_X7_98 rfl ?_
      rw [h]
      refine w_icmp_ge (tgt := 29) dX7_find_7 (by decide) (fun c_7 => ?_) (fun c_7 => absurd ((nI_le (by omega) (by omega))) c_7)
      refine w_iconst (v := (-1)) dX7_find_29 (by decide) ?_
      refine w_iret dX7_find_30 rfl rfl ⟨rt_i (by rw [← hq]; rfl), rfl⟩ (by decide) (by decide)
    | succ f ih =>
      intro k hk hq
      rw [perF] at hq
      refine w_iload_n dX7_find_2 rfl ?_
      refine w_aload_n dX7_find_3 rfl ?_
      refine x_geti (ci := 7) (k := 15) dX7_find_4 rfl (by decide) (by decide) (by omega) fl_X7_98 rfl ?_
      rw [h]
      refine w_icmp_ge (tgt := 29) dX7_find_7 (by decide) (fun c_7 => absurd c_7 ((nI_ge (by omega) (by omega)))) (fun c_7 => ?_)
      refine w_aload_n dX7_find_10 rfl ?_
      refine x_getr (ci := 7) (k := 13) (a := 92) dX7_find_11 rfl (by decide) (by decide) (by omega) fl_X7_47 (Or.inr ⟨_, rfl⟩) hR.2.2.2.2.2.2.2.2.2.2.2.2.2.1 ?_
      refine w_iload_n dX7_find_14 rfl ?_
      refine x_lald (j := k) dX7_find_15 rfl (by omega) rfl (show k < 6 by omega) ?_
      refine w_lload_n dX7_find_16 rfl ?_
      refine w_lcmp dX7_find_17 ?_
      refine w_if_ne (tgt := 23) dX7_find_18 (by decide) (fun c_18 => ?_) (fun c_18 => ?_)
      · refine w_iinc (v := nI (k + 1)) dX7_find_23 rfl (nI_inc _) (by decide) rfl ?_
        refine w_goto (tgt := 2) dX7_find_26 (by decide) ?_
        exact w_lv [3, 0, 1] (ih (k + 1) (by omega) (by rw [← hq, if_neg (fun q => c_18 (lg_eq.mpr (of_decide_eq_true q)))]))
      · refine w_iload_n dX7_find_21 rfl ?_
        refine w_iret dX7_find_22 rfl rfl ⟨rt_i (by rw [← hq, if_pos (decide_eq_true (lg_eq.mp c_18))]; rfl), rfl⟩ (by decide) (by decide)
  refine w_iconst (v := 0) dX7_find_0 (by decide) ?_
  refine w_istore_n dX7_find_1 (by decide) rfl ?_
  exact w_lv [3, 0, 1] (loop nr 0 (by omega) hQ)
def toB (f : Nat → Int32) (x : Int32) : Nat → Bool
  | 0 => false
  | j + 1 => toB f x j || decide (f j = x)
theorem toB_up {f : Nat → Int32} {x : Int32} : ∀ {j k : Nat}, j ≤ k → toB f x j = true → toB f x k = true
  | j, 0, h, q => by obtain rfl : j = 0 := by omega
                     exact q
  | j, k + 1, h, q => by
    rcases Nat.lt_or_ge k j with z | z
    · obtain rfl : j = k + 1 := by omega
      exact q
    · rw [toB, toB_up z q]; rfl
set_option maxRecDepth 100000 in
theorem m_isTold (hR : lkM R N) {m : Nat} (h : I 79 35 = nI m) (h8 : m ≤ 8) (x : Int32) : g_Ct E l mX7_isTold 0 0 0 0 [.ref 79, .int x] (I, J, R, D, N, ex) (g_is (some (.int (b2i (toB (I 97) x m)))) (I, J, R, D, N, ex)) := by
  refine g_Ct.of (by decide +kernel) (lb rfl) ?_
  have hN := hR.1
  have loop : ∀ f k : Nat, k + f = m → toB (I 97) x k = false → g_Wp E l mX7_isTold { frames := 0, cells := 0, slots := 0, locals := 0 } (g_Fin E (g_is (some (.int (b2i (toB (I 97) x m)))) (I, J, R, D, N, ex)) 0 0) 0 0 2 [(2, .int (nI k)), (0, .ref 79), (1, .int x)] [] (I, J, R, D, N, ex) := by
    intro f
    induction f with
    | zero =>
      intro k hk hq
      obtain rfl : k = m := by omega
      refine w_iload_n dX7_isTold_2 rfl ?_
      refine w_aload_n dX7_isTold_3 rfl ?_
      refine x_geti (ci := 7) (k := 35) dX7_isTold_4 rfl (by decide) (by decide) (by omega) fl_X7_180 rfl ?_
      rw [h]
      refine w_icmp_ge (tgt := 28) dX7_isTold_7 (by decide) (fun c_7 => ?_) (fun c_7 => absurd ((nI_le (by omega) (by omega))) c_7)
      refine w_iconst (v := 0) dX7_isTold_28 (by decide) ?_
      refine w_iret dX7_isTold_29 rfl rfl ⟨rt_f hq, rfl⟩ (by decide) (by decide)
    | succ f ih =>
      intro k hk hq
      refine w_iload_n dX7_isTold_2 rfl ?_
      refine w_aload_n dX7_isTold_3 rfl ?_
      refine x_geti (ci := 7) (k := 35) dX7_isTold_4 rfl (by decide) (by decide) (by omega) fl_X7_180 rfl ?_
      rw [h]
      refine w_icmp_ge (tgt := 28) dX7_isTold_7 (by decide) (fun c_7 => absurd c_7 ((nI_ge (by omega) (by omega)))) (fun c_7 => ?_)
      refine w_aload_n dX7_isTold_10 rfl ?_
      refine x_getr (ci := 7) (k := 34) (a := 97) dX7_isTold_11 rfl (by decide) (by decide) (by omega) fl_X7_63 (Or.inr ⟨_, rfl⟩) hR.2.2.2.2.2.2.2.2.2.2.2.2.2.2.2.2.2.2.1 ?_
      refine w_iload_n dX7_isTold_14 rfl ?_
      refine x_iald (j := k) dX7_isTold_15 rfl (by omega) rfl (show k < 8 by omega) ?_
      refine w_iload_n dX7_isTold_16 rfl ?_
      refine w_icmp_ne (tgt := 22) dX7_isTold_17 (by decide) (fun c_17 => ?_) (fun c_17 => ?_)
      · refine w_iinc (v := nI (k + 1)) dX7_isTold_22 rfl (nI_inc _) (by decide) rfl ?_
        refine w_goto (tgt := 2) dX7_isTold_25 (by decide) ?_
        exact w_lv [2, 0, 1] (ih (k + 1) (by omega) (by rw [toB, hq, decide_eq_false c_17]; rfl))
      · refine w_iconst (v := 1) dX7_isTold_20 (by decide) ?_
        refine w_iret dX7_isTold_21 rfl rfl ⟨rt_t (toB_up (j := k + 1) (by omega) (by rw [toB, decide_eq_true c_17, Bool.or_true])), rfl⟩ (by decide) (by decide)
  refine w_iconst (v := 0) dX7_isTold_0 (by decide) ?_
  refine w_istore_n dX7_isTold_1 (by decide) rfl ?_
  exact w_lv [2, 0, 1] (loop m 0 (by omega) rfl)
set_option maxRecDepth 100000 in
theorem m_isWord_b (hR : lkM R N) {e : Nat} (h : I 79 28 = nI e) (he : e ≠ 0 ∧ e ≤ 5) (r : Nat) : g_Ct E l mX7_isWord 4 85 0 0 [.ref 79, .ref r] (I, J, R, D, N, ex) (g_is (some (.int (b2i false))) (I, J, R, D, N, ex)) := by
  refine g_Ct.of (by decide +kernel) (lb rfl) ?_
  have hN := hR.1
  refine w_aload_n dX7_isWord_0 rfl ?_
  refine y_callV dX7_isWord_1 lk_X7_161 [] rfl (m_isGood E l hR h he.2) (g_recv.obj (ci := 7) rfl (by decide) (show 79 < N by omega)) rfl ⟨⟨by decide, by decide⟩, by decide, by decide⟩ (lb rfl) ?_
  rw [decide_eq_false he.1]
  refine w_if_eq (tgt := 31) dX7_isWord_4 (by decide) (fun c_4 => ?_) (fun c_4 => absurd (rfl) c_4)
  refine w_iconst (v := 0) dX7_isWord_31 (by decide) ?_
  refine w_iret dX7_isWord_32 rfl rfl ⟨rfl, rfl⟩ (by decide) (by decide)
set_option maxRecDepth 100000 in
theorem m_isWord (hR : lkM R N) (hg : I 79 28 = nI 0) (hr : mtx I tx L) (hm : mtC I J tx L a) (ha : a ≤ L) {i : Nat} (hi : i < 10) : g_Ct E l mX7_isWord 4 85 0 0 [.ref 79, .ref (1001 + i)] (I, J, R, D, N, ex) (g_is (some (.int (b2i (isW tx L a i)))) (I, J, R, D, N, ex)) := by
  refine g_Ct.of (by decide +kernel) (lb rfl) ?_
  have hN := hR.1
  have hL := hr.2.1
  have hb := tk_b (tx := tx) ha
  have hk := mtk_le tx L a
  have hw := wl_lt i hi
  have hw8 : wl i ≤ 8 := wl_8 i hi
  have hE : tkE tx L a = tkS tx L a + tkN tx L a := by unfold tkN; omega
  have loop : isNm tx L a = true → tkN tx L a = wl i → ∀ f j : Nat, j + f = wl i → eqW tx (tkS tx L a) i j = true → g_Wp E l mX7_isWord { frames := 4, cells := 0, slots := 0, locals := 85 } (g_Fin E (g_is (some (.int (b2i (isW tx L a i)))) (I, J, R, D, N, ex)) 0 0) 0 0 35 [(2, .int (nI j)), (0, .ref 79), (1, .ref (1001 + i))] [] (I, J, R, D, N, ex) := by
    intro h0 h2 f
    have h1 := (of_decide_eq_true h0).1
    induction f with
    | zero =>
      intro j hj he
      obtain rfl : j = wl i := by omega
      refine w_iload_n dX7_isWord_35 rfl ?_
      refine w_aload_n dX7_isWord_36 rfl ?_
      refine y_callV dX7_isWord_37 lk_X7_171 [] rfl (c_S_length E l _ hi) (g_recv.str hi) rfl ⟨⟨by decide, by decide⟩, by decide, by decide⟩ (lb rfl) ?_
      refine w_icmp_ge (tgt := 69) dX7_isWord_40 (by decide) (fun c_40 => ?_) (fun c_40 => absurd ((nI_le (by omega) (by omega))) c_40)
      refine w_iconst (v := 1) dX7_isWord_69 (by decide) ?_
      refine w_iret dX7_isWord_70 rfl rfl ⟨rt_t (by unfold isW; rw [decide_eq_true ⟨h1, h2⟩, he]; rfl), rfl⟩ (by decide) (by decide)
    | succ f ih =>
      intro j hj he
      have hkb := kb_1 ((tk_k (j := tkS tx L a + j) (Or.inl h1) (Nat.le_add_right _ _) (by omega)).trans h1)
      have hbt : bAt tx L (tkS tx L a + j) = sx (tx (tkS tx L a + j)) := by unfold bAt; rw [if_pos hkb.1, sx_lo _ (by omega)]
      refine w_iload_n dX7_isWord_35 rfl ?_
      refine w_aload_n dX7_isWord_36 rfl ?_
      refine y_callV dX7_isWord_37 lk_X7_171 [] rfl (c_S_length E l _ hi) (g_recv.str hi) rfl ⟨⟨by decide, by decide⟩, by decide, by decide⟩ (lb rfl) ?_
      refine w_icmp_ge (tgt := 69) dX7_isWord_40 (by decide) (fun c_40 => absurd c_40 ((nI_ge (by omega) (by omega)))) (fun c_40 => ?_)
      refine w_aload_n dX7_isWord_43 rfl ?_
      refine w_aload_n dX7_isWord_44 rfl ?_
      refine x_geti (ci := 7) (k := 24) dX7_isWord_45 rfl (by decide) (by decide) (by omega) fl_X7_136 rfl ?_
      rw [hm.1]
      refine w_iload_n dX7_isWord_48 rfl ?_
      refine w_iadd dX7_isWord_49 ?_
      rw [nI_add]
      refine y_callV dX7_isWord_50 lk_X7_129 [.int (nI (tkS tx L a + j))] rfl (m_byteAt E l hR hr (show tkS tx L a + j < 1000 by omega)) (g_recv.obj (ci := 7) rfl (by decide) (show 79 < N by omega)) rfl ⟨⟨by decide, by decide⟩, by decide, by decide⟩ (lb rfl) ?_
      rw [hbt]
      refine w_aload_n dX7_isWord_53 rfl ?_
      refine w_iload_n dX7_isWord_54 rfl ?_
      refine y_callV dX7_isWord_55 lk_X7_176 [.int (nI j)] rfl (c_S_charAt E l _ hi (show j < wl i by omega)) (g_recv.str hi) rfl ⟨⟨by decide, by decide⟩, by decide, by decide⟩ (lb rfl) ?_
      refine w_icmp_eq (tgt := 63) dX7_isWord_58 (by decide) (fun c_58 => ?_) (fun c_58 => ?_)
      · refine w_iinc (v := nI (j + 1)) dX7_isWord_63 rfl (nI_inc _) (by decide) rfl ?_
        refine w_goto (tgt := 35) dX7_isWord_66 (by decide) ?_
        exact w_lv [2, 0, 1] (ih (j + 1) (by omega) (by rw [eqW, he, decide_eq_true c_58]; rfl))
      · refine w_iconst (v := 0) dX7_isWord_61 (by decide) ?_
        refine w_iret dX7_isWord_62 rfl rfl ⟨rt_f (by unfold isW; rw [eqW_no (n := j + 1) (by omega) (by rw [eqW, decide_eq_false c_58, Bool.and_false]), Bool.and_false]), rfl⟩ (by decide) (by decide)
  have hno : (¬ (isNm tx L a = true) ∨ tkN tx L a ≠ wl i) → isW tx L a i = false := by
    intro q
    unfold isW
    rw [decide_eq_false]
    · rfl
    · rintro ⟨q1, q2⟩
      rcases q with q | q
      · exact q (decide_eq_true ⟨q1, by omega⟩)
      · exact q q2
  have hn400 : tkN tx L a ≤ 400 := by unfold tkN; omega
  refine w_aload_n dX7_isWord_0 rfl ?_
  refine y_callV dX7_isWord_1 lk_X7_161 [] rfl (m_isGood E l hR hg (by decide)) (g_recv.obj (ci := 7) rfl (by decide) (show 79 < N by omega)) rfl ⟨⟨by decide, by decide⟩, by decide, by decide⟩ (lb rfl) ?_
  refine w_if_eq (tgt := 31) dX7_isWord_4 (by decide) (fun c_4 => absurd c_4 ((by decide))) (fun c_4 => ?_)
  refine w_aload_n dX7_isWord_7 rfl ?_
  refine x_geti (ci := 7) (k := 26) dX7_isWord_8 rfl (by decide) (by decide) (by omega) fl_X7_143 rfl ?_
  rw [hm.2.2.1]
  refine w_iconst (v := 1) dX7_isWord_11 (by decide) ?_
  refine w_icmp_ne (tgt := 31) dX7_isWord_12 (by decide) (fun c_12 => ?_) (fun c_12 => ?_)
  · refine w_iconst (v := 0) dX7_isWord_31 (by decide) ?_
    refine w_iret dX7_isWord_32 rfl rfl (by first | exact ⟨rt_f (hno (Or.inr (n_ne c_28))), rfl⟩ | exact ⟨rt_f (hno (Or.inl (fun q => c_12 (by rw [mtk_1.mpr q]; rfl)))), rfl⟩) (by decide) (by decide)
  · refine w_aload_n dX7_isWord_15 rfl ?_
    refine x_geti (ci := 7) (k := 25) dX7_isWord_16 rfl (by decide) (by decide) (by omega) fl_X7_126 rfl ?_
    rw [hm.2.1]
    refine w_aload_n dX7_isWord_19 rfl ?_
    refine x_geti (ci := 7) (k := 24) dX7_isWord_20 rfl (by decide) (by decide) (by omega) fl_X7_136 rfl ?_
    rw [hm.1]
    refine w_isub dX7_isWord_23 ?_
    refine w_st (show _ = [.int (nI (tkN tx L a))] from by rw [pk_sub hb.2.2.1]; rfl) ?_
    refine w_aload_n dX7_isWord_24 rfl ?_
    refine y_callV dX7_isWord_25 lk_X7_171 [] rfl (c_S_length E l _ hi) (g_recv.str hi) rfl ⟨⟨by decide, by decide⟩, by decide, by decide⟩ (lb rfl) ?_
    refine w_icmp_eq (tgt := 33) dX7_isWord_28 (by decide) (fun c_28 => ?_) (fun c_28 => ?_)
    · refine w_iconst (v := 0) dX7_isWord_33 (by decide) ?_
      refine w_istore_n dX7_isWord_34 (by decide) rfl ?_
      exact w_lv [2, 0, 1] (loop (mtk_1.mp (n_eq (b := 1) c_12)) (n_eq c_28) (wl i) 0 (by omega) rfl)
    · refine w_iconst (v := 0) dX7_isWord_31 (by decide) ?_
      refine w_iret dX7_isWord_32 rfl rfl (by first | exact ⟨rt_f (hno (Or.inr (n_ne c_28))), rfl⟩ | exact ⟨rt_f (hno (Or.inl (fun q => c_12 (by rw [mtk_1.mpr q]; rfl)))), rfl⟩) (by decide) (by decide)
set_option maxRecDepth 100000 in
theorem m_kindHere (hR : lkM R N) (hg : I 79 28 = nI 0) (hr : mtx I tx L) (hm : mtC I J tx L a) (ha : a ≤ L) : g_Ct E l mX7_kindHere 5 107 0 0 [.ref 79] (I, J, R, D, N, ex) (g_is (some (.int (kdS tx L a))) (I, J, R, D, N, ex)) := by
  refine g_Ct.of (by decide +kernel) (lb rfl) ?_
  have hN := hR.1
  refine w_aload_n dX7_kindHere_0 rfl ?_
  refine w_ldcS (i := 5) (tx := "take") dX7_kindHere_1 (by decide +kernel) (by decide) ?_
  refine y_callV dX7_kindHere_3 lk_X7_192 [.ref (1001 + 5)] rfl (m_isWord E l hR hg hr hm ha (show 5 < 10 by decide)) (g_recv.obj (ci := 7) rfl (by decide) (show 79 < N by omega)) rfl ⟨⟨by decide, by decide⟩, by decide, by decide⟩ (lb rfl) ?_
  refine w_if_eq (tgt := 13) dX7_kindHere_6 (by decide) (fun c_6 => ?_) (fun c_6 => ?_)
  · refine w_aload_n dX7_kindHere_13 rfl ?_
    refine w_ldcS (i := 6) (tx := "divisors") dX7_kindHere_14 (by decide +kernel) (by decide) ?_
    refine y_callV dX7_kindHere_16 lk_X7_192 [.ref (1001 + 6)] rfl (m_isWord E l hR hg hr hm ha (show 6 < 10 by decide)) (g_recv.obj (ci := 7) rfl (by decide) (show 79 < N by omega)) rfl ⟨⟨by decide, by decide⟩, by decide, by decide⟩ (lb rfl) ?_
    refine w_if_eq (tgt := 26) dX7_kindHere_19 (by decide) (fun c_19 => ?_) (fun c_19 => ?_)
    · refine w_aload_n dX7_kindHere_26 rfl ?_
      refine w_ldcS (i := 7) (tx := "half") dX7_kindHere_27 (by decide +kernel) (by decide) ?_
      refine y_callV dX7_kindHere_29 lk_X7_192 [.ref (1001 + 7)] rfl (m_isWord E l hR hg hr hm ha (show 7 < 10 by decide)) (g_recv.obj (ci := 7) rfl (by decide) (show 79 < N by omega)) rfl ⟨⟨by decide, by decide⟩, by decide, by decide⟩ (lb rfl) ?_
      refine w_if_eq (tgt := 39) dX7_kindHere_32 (by decide) (fun c_32 => ?_) (fun c_32 => ?_)
      · refine w_aload_n dX7_kindHere_39 rfl ?_
        refine w_ldcS (i := 8) (tx := "powers") dX7_kindHere_40 (by decide +kernel) (by decide) ?_
        refine y_callV dX7_kindHere_42 lk_X7_192 [.ref (1001 + 8)] rfl (m_isWord E l hR hg hr hm ha (show 8 < 10 by decide)) (g_recv.obj (ci := 7) rfl (by decide) (show 79 < N by omega)) rfl ⟨⟨by decide, by decide⟩, by decide, by decide⟩ (lb rfl) ?_
        refine w_if_eq (tgt := 52) dX7_kindHere_45 (by decide) (fun c_45 => ?_) (fun c_45 => ?_)
        · refine w_aload_n dX7_kindHere_52 rfl ?_
          refine w_ldcS (i := 9) (tx := "squares") dX7_kindHere_53 (by decide +kernel) (by decide) ?_
          refine y_callV dX7_kindHere_55 lk_X7_192 [.ref (1001 + 9)] rfl (m_isWord E l hR hg hr hm ha (show 9 < 10 by decide)) (g_recv.obj (ci := 7) rfl (by decide) (show 79 < N by omega)) rfl ⟨⟨by decide, by decide⟩, by decide, by decide⟩ (lb rfl) ?_
          refine w_if_eq (tgt := 65) dX7_kindHere_58 (by decide) (fun c_58 => ?_) (fun c_58 => ?_)
          · refine w_iconst (v := (-1)) dX7_kindHere_65 (by decide) ?_
            refine w_iret dX7_kindHere_66 rfl rfl (by first | exact ⟨rt_i (by unfold kdS; rw [b2i_0.mp c_6, if_neg (by decide), b2i_0.mp c_19, if_neg (by decide), b2i_0.mp c_32, if_neg (by decide), b2i_0.mp c_45, if_neg (by decide), b2i_0.mp c_58, if_neg (by decide)]), rfl⟩ | exact ⟨rt_i (by unfold kdS; rw [b2i_0.mp c_6, if_neg (by decide), b2i_0.mp c_19, if_neg (by decide), b2i_0.mp c_32, if_neg (by decide), b2i_0.mp c_45, if_neg (by decide), if_pos (b2i_ne.mp c_58)]), rfl⟩ | exact ⟨rt_i (by unfold kdS; rw [b2i_0.mp c_6, if_neg (by decide), b2i_0.mp c_19, if_neg (by decide), b2i_0.mp c_32, if_neg (by decide), if_pos (b2i_ne.mp c_45)]), rfl⟩ | exact ⟨rt_i (by unfold kdS; rw [b2i_0.mp c_6, if_neg (by decide), b2i_0.mp c_19, if_neg (by decide), if_pos (b2i_ne.mp c_32)]), rfl⟩ | exact ⟨rt_i (by unfold kdS; rw [b2i_0.mp c_6, if_neg (by decide), if_pos (b2i_ne.mp c_19)]), rfl⟩ | exact ⟨rt_i (by unfold kdS; rw [if_pos (b2i_ne.mp c_6)]), rfl⟩) (by decide) (by decide)
          · refine w_iconst (v := 4) dX7_kindHere_61 (by decide) ?_
            refine w_goto (tgt := 66) dX7_kindHere_62 (by decide) ?_
            refine w_iret dX7_kindHere_66 rfl rfl (by first | exact ⟨rt_i (by unfold kdS; rw [b2i_0.mp c_6, if_neg (by decide), b2i_0.mp c_19, if_neg (by decide), b2i_0.mp c_32, if_neg (by decide), b2i_0.mp c_45, if_neg (by decide), b2i_0.mp c_58, if_neg (by decide)]), rfl⟩ | exact ⟨rt_i (by unfold kdS; rw [b2i_0.mp c_6, if_neg (by decide), b2i_0.mp c_19, if_neg (by decide), b2i_0.mp c_32, if_neg (by decide), b2i_0.mp c_45, if_neg (by decide), if_pos (b2i_ne.mp c_58)]), rfl⟩ | exact ⟨rt_i (by unfold kdS; rw [b2i_0.mp c_6, if_neg (by decide), b2i_0.mp c_19, if_neg (by decide), b2i_0.mp c_32, if_neg (by decide), if_pos (b2i_ne.mp c_45)]), rfl⟩ | exact ⟨rt_i (by unfold kdS; rw [b2i_0.mp c_6, if_neg (by decide), b2i_0.mp c_19, if_neg (by decide), if_pos (b2i_ne.mp c_32)]), rfl⟩ | exact ⟨rt_i (by unfold kdS; rw [b2i_0.mp c_6, if_neg (by decide), if_pos (b2i_ne.mp c_19)]), rfl⟩ | exact ⟨rt_i (by unfold kdS; rw [if_pos (b2i_ne.mp c_6)]), rfl⟩) (by decide) (by decide)
        · refine w_iconst (v := 3) dX7_kindHere_48 (by decide) ?_
          refine w_goto (tgt := 66) dX7_kindHere_49 (by decide) ?_
          refine w_iret dX7_kindHere_66 rfl rfl (by first | exact ⟨rt_i (by unfold kdS; rw [b2i_0.mp c_6, if_neg (by decide), b2i_0.mp c_19, if_neg (by decide), b2i_0.mp c_32, if_neg (by decide), b2i_0.mp c_45, if_neg (by decide), b2i_0.mp c_58, if_neg (by decide)]), rfl⟩ | exact ⟨rt_i (by unfold kdS; rw [b2i_0.mp c_6, if_neg (by decide), b2i_0.mp c_19, if_neg (by decide), b2i_0.mp c_32, if_neg (by decide), b2i_0.mp c_45, if_neg (by decide), if_pos (b2i_ne.mp c_58)]), rfl⟩ | exact ⟨rt_i (by unfold kdS; rw [b2i_0.mp c_6, if_neg (by decide), b2i_0.mp c_19, if_neg (by decide), b2i_0.mp c_32, if_neg (by decide), if_pos (b2i_ne.mp c_45)]), rfl⟩ | exact ⟨rt_i (by unfold kdS; rw [b2i_0.mp c_6, if_neg (by decide), b2i_0.mp c_19, if_neg (by decide), if_pos (b2i_ne.mp c_32)]), rfl⟩ | exact ⟨rt_i (by unfold kdS; rw [b2i_0.mp c_6, if_neg (by decide), if_pos (b2i_ne.mp c_19)]), rfl⟩ | exact ⟨rt_i (by unfold kdS; rw [if_pos (b2i_ne.mp c_6)]), rfl⟩) (by decide) (by decide)
      · refine w_iconst (v := 2) dX7_kindHere_35 (by decide) ?_
        refine w_goto (tgt := 66) dX7_kindHere_36 (by decide) ?_
        refine w_iret dX7_kindHere_66 rfl rfl (by first | exact ⟨rt_i (by unfold kdS; rw [b2i_0.mp c_6, if_neg (by decide), b2i_0.mp c_19, if_neg (by decide), b2i_0.mp c_32, if_neg (by decide), b2i_0.mp c_45, if_neg (by decide), b2i_0.mp c_58, if_neg (by decide)]), rfl⟩ | exact ⟨rt_i (by unfold kdS; rw [b2i_0.mp c_6, if_neg (by decide), b2i_0.mp c_19, if_neg (by decide), b2i_0.mp c_32, if_neg (by decide), b2i_0.mp c_45, if_neg (by decide), if_pos (b2i_ne.mp c_58)]), rfl⟩ | exact ⟨rt_i (by unfold kdS; rw [b2i_0.mp c_6, if_neg (by decide), b2i_0.mp c_19, if_neg (by decide), b2i_0.mp c_32, if_neg (by decide), if_pos (b2i_ne.mp c_45)]), rfl⟩ | exact ⟨rt_i (by unfold kdS; rw [b2i_0.mp c_6, if_neg (by decide), b2i_0.mp c_19, if_neg (by decide), if_pos (b2i_ne.mp c_32)]), rfl⟩ | exact ⟨rt_i (by unfold kdS; rw [b2i_0.mp c_6, if_neg (by decide), if_pos (b2i_ne.mp c_19)]), rfl⟩ | exact ⟨rt_i (by unfold kdS; rw [if_pos (b2i_ne.mp c_6)]), rfl⟩) (by decide) (by decide)
    · refine w_iconst (v := 1) dX7_kindHere_22 (by decide) ?_
      refine w_goto (tgt := 66) dX7_kindHere_23 (by decide) ?_
      refine w_iret dX7_kindHere_66 rfl rfl (by first | exact ⟨rt_i (by unfold kdS; rw [b2i_0.mp c_6, if_neg (by decide), b2i_0.mp c_19, if_neg (by decide), b2i_0.mp c_32, if_neg (by decide), b2i_0.mp c_45, if_neg (by decide), b2i_0.mp c_58, if_neg (by decide)]), rfl⟩ | exact ⟨rt_i (by unfold kdS; rw [b2i_0.mp c_6, if_neg (by decide), b2i_0.mp c_19, if_neg (by decide), b2i_0.mp c_32, if_neg (by decide), b2i_0.mp c_45, if_neg (by decide), if_pos (b2i_ne.mp c_58)]), rfl⟩ | exact ⟨rt_i (by unfold kdS; rw [b2i_0.mp c_6, if_neg (by decide), b2i_0.mp c_19, if_neg (by decide), b2i_0.mp c_32, if_neg (by decide), if_pos (b2i_ne.mp c_45)]), rfl⟩ | exact ⟨rt_i (by unfold kdS; rw [b2i_0.mp c_6, if_neg (by decide), b2i_0.mp c_19, if_neg (by decide), if_pos (b2i_ne.mp c_32)]), rfl⟩ | exact ⟨rt_i (by unfold kdS; rw [b2i_0.mp c_6, if_neg (by decide), if_pos (b2i_ne.mp c_19)]), rfl⟩ | exact ⟨rt_i (by unfold kdS; rw [if_pos (b2i_ne.mp c_6)]), rfl⟩) (by decide) (by decide)
  · refine w_iconst (v := 0) dX7_kindHere_9 (by decide) ?_
    refine w_goto (tgt := 66) dX7_kindHere_10 (by decide) ?_
    refine w_iret dX7_kindHere_66 rfl rfl (by first | exact ⟨rt_i (by unfold kdS; rw [b2i_0.mp c_6, if_neg (by decide), b2i_0.mp c_19, if_neg (by decide), b2i_0.mp c_32, if_neg (by decide), b2i_0.mp c_45, if_neg (by decide), b2i_0.mp c_58, if_neg (by decide)]), rfl⟩ | exact ⟨rt_i (by unfold kdS; rw [b2i_0.mp c_6, if_neg (by decide), b2i_0.mp c_19, if_neg (by decide), b2i_0.mp c_32, if_neg (by decide), b2i_0.mp c_45, if_neg (by decide), if_pos (b2i_ne.mp c_58)]), rfl⟩ | exact ⟨rt_i (by unfold kdS; rw [b2i_0.mp c_6, if_neg (by decide), b2i_0.mp c_19, if_neg (by decide), b2i_0.mp c_32, if_neg (by decide), if_pos (b2i_ne.mp c_45)]), rfl⟩ | exact ⟨rt_i (by unfold kdS; rw [b2i_0.mp c_6, if_neg (by decide), b2i_0.mp c_19, if_neg (by decide), if_pos (b2i_ne.mp c_32)]), rfl⟩ | exact ⟨rt_i (by unfold kdS; rw [b2i_0.mp c_6, if_neg (by decide), if_pos (b2i_ne.mp c_19)]), rfl⟩ | exact ⟨rt_i (by unfold kdS; rw [if_pos (b2i_ne.mp c_6)]), rfl⟩) (by decide) (by decide)
end MTn
