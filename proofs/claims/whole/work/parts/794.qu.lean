/-! HeapGamesModel: asking the position -/
/-- after a call that leaves the state as it was -/
def qP (I : Nat → Nat → Int32) (A : AS) (c : Nat) (t : Int32) (I' : Nat → Nat → Int32) : Prop := (∀ o, o < 79 → I' o = I o) ∧ I' 79 17 = t ∧ rM I' A (c + 1)
theorem qP.of {I I' : Nat → Nat → Int32} {A : AS} {c : Nat} {t : Int32} (f : frO (up2 I 79 17 t) I') (h : rM I' A (c + 1)) : qP I A c t I' := ⟨f.thr.1, f.thr.2, h⟩
theorem qP.at0 {I : Nat → Nat → Int32} {A : AS} {c : Nat} (h : rM I A c) (t : Int32) : qP I A c t (up2 I 79 17 t) := qP.of (frO.refl _) ((h.thr t).up (Nat.le_succ c))
theorem qP.at1 {I : Nat → Nat → Int32} {A : AS} {c : Nat} (h : rM I A c) (t u : Int32) : qP I A c t (up2 (up2 I 79 17 u) 79 17 t) := ⟨fun o ho => by funext j; rw [up2_n _ _ (by omega), up2_n _ _ (by omega)], up2_s .., ((h.thr u).thr t).up (Nat.le_succ c)⟩
section MQ
variable (E : GE) (l : Launch)
variable {I : Nat → Nat → Int32} {J : Nat → Nat → Int64} {R : Nat → Nat → Option Nat} {D : Nat → Nat → UInt64} {N : Nat} {ex : Bool} {A : AS} {c : Nat}

set_option maxRecDepth 100000 in
theorem m_positionValue (hR : lkM R N) (hA : aOK A) (h : rM I A c) (hc : c ≤ 1000) : g_Ct E l mX7_positionValue 5 114 0 0 [.ref 79] (I, J, R, D, N, ex) (g_ri (fun y I' => y = nI (val A.cf A.st.pos).2.2 ∧ qP I A c 0 I') J R D N ex) := by
  refine g_Ct.of (by decide +kernel) (lb rfl) ?_
  have hN := hR.1
  have h9 := h.thr 0
  have z9 : up2 I 79 17 0 79 17 = 0 := up2_s ..
  refine w_aload_n dX7_positionValue_0 rfl ?_
  refine w_iconst (v := 0) dX7_positionValue_1 (by decide) ?_
  refine x_puti (ci := 7) (k := 17) dX7_positionValue_2 rfl (by decide) (by decide) (by omega) fl_X7_73 rfl rfl ?_
  refine w_aload_n dX7_positionValue_5 rfl ?_
  refine u_callV dX7_positionValue_6 lk_X7_357 [] rfl (m_laysA E l hR hA h9 hc) (g_recv.obj (ci := 7) rfl (by decide) (show 79 < N by omega)) rfl ⟨⟨by decide, by decide⟩, by decide, by decide⟩ (lb rfl) (fun I2 h_6 => ?_)
  obtain ⟨k1, k2, k3⟩ := h_6
  obtain ⟨t1, t2, t3⟩ := tb_he hA k3
  refine w_aload_n dX7_positionValue_9 rfl ?_
  refine w_aload_n dX7_positionValue_10 rfl ?_
  refine y_callV dX7_positionValue_11 lk_X7_341 [] rfl (m_here E l hR hA.2.2.1 k2.1) (g_recv.obj (ci := 7) rfl (by decide) (show 79 < N by omega)) rfl ⟨⟨by decide, by decide⟩, by decide, by decide⟩ (lb rfl) ?_
  refine y_callV dX7_positionValue_14 lk_X7_295 [.int (nI (hAt A.st))] rfl (m_valueAt E l hR t1 t2 t3) (g_recv.obj (ci := 7) rfl (by decide) (show 79 < N by omega)) rfl ⟨⟨by decide, by decide⟩, by decide, by decide⟩ (lb rfl) ?_
  refine w_iret dX7_positionValue_17 rfl rfl ⟨_, _, rfl, ⟨rfl, qP.of k1.o k2⟩, rfl⟩ (by decide) (by decide)
set_option maxRecDepth 100000 in
theorem m_isWon (hR : lkM R N) (hA : aOK A) (h : rM I A c) (hc : c ≤ 1000) : g_Ct E l mX7_isWon 5 114 0 0 [.ref 79] (I, J, R, D, N, ex) (g_ri (fun y I' => y = b2i (val A.cf A.st.pos).1 ∧ qP I A c 0 I') J R D N ex) := by
  refine g_Ct.of (by decide +kernel) (lb rfl) ?_
  have hN := hR.1
  have h9 := h.thr 0
  have z9 : up2 I 79 17 0 79 17 = 0 := up2_s ..
  refine w_aload_n dX7_isWon_0 rfl ?_
  refine w_iconst (v := 0) dX7_isWon_1 (by decide) ?_
  refine x_puti (ci := 7) (k := 17) dX7_isWon_2 rfl (by decide) (by decide) (by omega) fl_X7_73 rfl rfl ?_
  refine w_aload_n dX7_isWon_5 rfl ?_
  refine u_callV dX7_isWon_6 lk_X7_357 [] rfl (m_laysA E l hR hA h9 hc) (g_recv.obj (ci := 7) rfl (by decide) (show 79 < N by omega)) rfl ⟨⟨by decide, by decide⟩, by decide, by decide⟩ (lb rfl) (fun I2 h_6 => ?_)
  obtain ⟨k1, k2, k3⟩ := h_6
  obtain ⟨t1, t2, t3⟩ := tb_he hA k3
  refine w_aload_n dX7_isWon_9 rfl ?_
  refine w_aload_n dX7_isWon_10 rfl ?_
  refine y_callV dX7_isWon_11 lk_X7_341 [] rfl (m_here E l hR hA.2.2.1 k2.1) (g_recv.obj (ci := 7) rfl (by decide) (show 79 < N by omega)) rfl ⟨⟨by decide, by decide⟩, by decide, by decide⟩ (lb rfl) ?_
  refine y_callV dX7_isWon_14 lk_X7_301 [.int (nI (hAt A.st))] rfl (m_isWonAt E l hR t1 t2 t3) (g_recv.obj (ci := 7) rfl (by decide) (show 79 < N by omega)) rfl ⟨⟨by decide, by decide⟩, by decide, by decide⟩ (lb rfl) ?_
  refine w_iret dX7_isWon_17 rfl (nz_b _) ⟨_, _, rfl, ⟨rfl, qP.of k1.o k2⟩, rfl⟩ (by decide) (by decide)
set_option maxRecDepth 100000 in
theorem m_length (hR : lkM R N) (hA : aOK A) (h : rM I A c) (hc : c ≤ 1000) : g_Ct E l mX7_length 5 114 0 0 [.ref 79] (I, J, R, D, N, ex) (g_ri (fun y I' => y = nI (val A.cf A.st.pos).2.1 ∧ qP I A c 0 I') J R D N ex) := by
  refine g_Ct.of (by decide +kernel) (lb rfl) ?_
  have hN := hR.1
  have h9 := h.thr 0
  have z9 : up2 I 79 17 0 79 17 = 0 := up2_s ..
  refine w_aload_n dX7_length_0 rfl ?_
  refine w_iconst (v := 0) dX7_length_1 (by decide) ?_
  refine x_puti (ci := 7) (k := 17) dX7_length_2 rfl (by decide) (by decide) (by omega) fl_X7_73 rfl rfl ?_
  refine w_aload_n dX7_length_5 rfl ?_
  refine u_callV dX7_length_6 lk_X7_357 [] rfl (m_laysA E l hR hA h9 hc) (g_recv.obj (ci := 7) rfl (by decide) (show 79 < N by omega)) rfl ⟨⟨by decide, by decide⟩, by decide, by decide⟩ (lb rfl) (fun I2 h_6 => ?_)
  obtain ⟨k1, k2, k3⟩ := h_6
  obtain ⟨t1, t2, t3⟩ := tb_he hA k3
  refine w_aload_n dX7_length_9 rfl ?_
  refine w_aload_n dX7_length_10 rfl ?_
  refine y_callV dX7_length_11 lk_X7_341 [] rfl (m_here E l hR hA.2.2.1 k2.1) (g_recv.obj (ci := 7) rfl (by decide) (show 79 < N by omega)) rfl ⟨⟨by decide, by decide⟩, by decide, by decide⟩ (lb rfl) ?_
  refine y_callV dX7_length_14 lk_X7_298 [.int (nI (hAt A.st))] rfl (m_lengthAt E l hR t1 t2 t3) (g_recv.obj (ci := 7) rfl (by decide) (show 79 < N by omega)) rfl ⟨⟨by decide, by decide⟩, by decide, by decide⟩ (lb rfl) ?_
  refine w_iret dX7_length_17 rfl rfl ⟨_, _, rfl, ⟨rfl, qP.of k1.o k2⟩, rfl⟩ (by decide) (by decide)
set_option maxRecDepth 100000 in
theorem m_moves (hR : lkM R N) (hA : aOK A) (h : rM I A c) : g_Ct E l mX7_moves 6 138 0 0 [.ref 79] (I, J, R, D, N, ex) (g_ri (fun y I' => y = nI (mvs A.cf A.st.pos).length ∧ qP I A c 0 I') J R D N ex) := by
  refine g_Ct.of (by decide +kernel) (lb rfl) ?_
  have hN := hR.1
  have h9 := h.thr 0
  have z9 : up2 I 79 17 0 79 17 = 0 := up2_s ..
  refine w_aload_n dX7_moves_0 rfl ?_
  refine w_iconst (v := 0) dX7_moves_1 (by decide) ?_
  refine x_puti (ci := 7) (k := 17) dX7_moves_2 rfl (by decide) (by decide) (by omega) fl_X7_73 rfl rfl ?_
  refine w_aload_n dX7_moves_5 rfl ?_
  refine v_callV dX7_moves_6 lk_X7_360 [] rfl (m_movesNow E l hR hA h9) (g_recv.obj (ci := 7) rfl (by decide) (show 79 < N by omega)) rfl ⟨⟨by decide, by decide⟩, by decide, by decide⟩ (lb rfl) (fun x_6 I2 h_6 => ?_)
  obtain ⟨k1, k2⟩ := h_6
  refine w_iret dX7_moves_9 rfl rfl ⟨_, _, rfl, ⟨k1, qP.of k2.o ((h9.z k2).up (Nat.le_succ c))⟩, rfl⟩ (by decide) (by decide)
set_option maxRecDepth 100000 in
theorem m_winner (hR : lkM R N) (hA : aOK A) (h : rM I A c) : g_Ct E l mX7_winner 6 138 0 0 [.ref 79] (I, J, R, D, N, ex) (g_ri (fun y I' => y = wiS A ∧ frZ I I') J R D N ex) := by
  refine g_Ct.of (by decide +kernel) (lb rfl) ?_
  have hN := hR.1
  have hlen : (mvs A.cf A.st.pos).length ≤ 81 := mvs_81 (cf_ok hA.2.1 (hA.2.2.1.rs hA.1)) _
  have hpl := hA.2.2.1.2.2.2.1
  by_cases h0 : (mvs A.cf A.st.pos).length = 0
  · have hw : wiS A = nI ((A.st.pl.length + 1 + (if A.st.mi then 1 else 0)) % 2) := by
      unfold wiS
      rw [if_neg (by omega)]
      cases A.st.mi with
      | true => rw [if_pos rfl, if_pos rfl]; unfold plS; congr 1; omega
      | false => rw [if_neg (by decide), if_neg (by decide)]; congr 1; omega
    have hb : b2i A.st.mi = nI (if A.st.mi then 1 else 0) := by cases A.st.mi <;> rfl
    refine w_aload_n dX7_winner_0 rfl ?_
    refine v_callV dX7_winner_1 lk_X7_360 [] rfl (m_movesNow E l hR hA h) (g_recv.obj (ci := 7) rfl (by decide) (show 79 < N by omega)) rfl ⟨⟨by decide, by decide⟩, by decide, by decide⟩ (lb rfl) (fun x_1 I2 h_1 => ?_)
    obtain ⟨k1, k2⟩ := h_1
    have e80 := k2.1 80 (by decide)
    refine w_if_le (tgt := 11) dX7_winner_4 (by decide) (fun c_4 => ?_) (fun c_4 => absurd ((by rw [k1, h0]; decide)) c_4)
    refine w_aload_n dX7_winner_11 rfl ?_
    refine x_getr (ci := 7) (k := 0) (a := 80) dX7_winner_12 rfl (by decide) (by decide) (by omega) fl_X7_7 (Or.inr ⟨_, rfl⟩) hR.2.1 ?_
    refine w_bipush (v := 11) dX7_winner_15 (by decide) ?_
    refine x_iald (j := 11) dX7_winner_17 rfl (by omega) rfl (show 11 < 172 by decide) ?_
    rw [e80, show I 80 11 = nI A.st.pl.length from h.1.2.2.2.2.1]
    refine w_iconst (v := 1) dX7_winner_18 (by decide) ?_
    refine w_iadd dX7_winner_19 ?_
    rw [nI_1]
    refine w_aload_n dX7_winner_20 rfl ?_
    refine x_getr (ci := 7) (k := 0) (a := 80) dX7_winner_21 rfl (by decide) (by decide) (by omega) fl_X7_7 (Or.inr ⟨_, rfl⟩) hR.2.1 ?_
    refine w_bipush (v := 10) dX7_winner_24 (by decide) ?_
    refine x_iald (j := 10) dX7_winner_26 rfl (by omega) rfl (show 10 < 172 by decide) ?_
    rw [e80, show I 80 10 = b2i A.st.mi from h.1.2.2.2.1, hb]
    refine w_iadd dX7_winner_27 ?_
    rw [nI_add]
    refine w_iconst (v := 2) dX7_winner_28 (by decide) ?_
    refine w_irem dX7_winner_29 (by decide) ?_
    refine w_st (show _ = [.int (wiS A)] from by rw [show (2 : Int32) = nI 2 from rfl, pk_rem (by split <;> omega) (by omega) (by omega), hw]) ?_
    refine w_iret dX7_winner_30 rfl rfl ⟨_, _, rfl, ⟨rfl, k2⟩, rfl⟩ (by decide) (by decide)
  · have hw : wiS A = -1 := by unfold wiS; rw [if_pos (by omega)]
    refine w_aload_n dX7_winner_0 rfl ?_
    refine v_callV dX7_winner_1 lk_X7_360 [] rfl (m_movesNow E l hR hA h) (g_recv.obj (ci := 7) rfl (by decide) (show 79 < N by omega)) rfl ⟨⟨by decide, by decide⟩, by decide, by decide⟩ (lb rfl) (fun x_1 I2 h_1 => ?_)
    obtain ⟨k1, k2⟩ := h_1
    refine w_if_le (tgt := 11) dX7_winner_4 (by decide) (fun c_4 => absurd c_4 ((by rw [k1]; exact fun q => absurd (n_le (b := 0) q) (by omega)))) (fun c_4 => ?_)
    refine w_iconst (v := (-1)) dX7_winner_7 (by decide) ?_
    refine w_goto (tgt := 30) dX7_winner_8 (by decide) ?_
    refine w_iret dX7_winner_30 rfl rfl ⟨_, _, rfl, ⟨hw.symm, k2⟩, rfl⟩ (by decide) (by decide)
set_option maxRecDepth 100000 in
theorem m_size (hR : lkM R N) (hA : aOK A) (h : rM I A c) {w : Nat} (hw : w < 10) : g_Ct E l mX7_size 7 158 0 0 [.ref 79, .int (nI w)] (I, J, R, D, N, ex) (g_ri (fun y I' => y = szS A w ∧ qP I A c 0 I') J R D N ex) := by
  refine g_Ct.of (by decide +kernel) (lb rfl) ?_
  have hN := hR.1
  have h9 := h.thr 0
  have z9 : up2 I 79 17 0 79 17 = 0 := up2_s ..
  have hpl := hA.2.2.1.2.2.2.1
  refine w_aload_n dX7_size_0 rfl ?_
  refine w_iconst (v := 0) dX7_size_1 (by decide) ?_
  refine x_puti (ci := 7) (k := 17) dX7_size_2 rfl (by decide) (by decide) (by omega) fl_X7_73 rfl rfl ?_
  refine w_aload_n dX7_size_5 rfl ?_
  refine w_iload_n dX7_size_6 rfl ?_
  refine w_iconst (v := 0) dX7_size_7 (by decide) ?_
  refine w_bipush (v := 9) dX7_size_8 (by decide) ?_
  refine y_callS dX7_size_10 lk_X7_77 [.int (nI w), .int 0, .int 9] rfl (m_within E l _ _ _ _) rfl ⟨⟨by decide, by decide⟩, by decide, by decide⟩ (lb rfl) ?_
  rw [decide_eq_true (show ¬ nI w < 0 ∧ ¬ (9 : Int32) < nI w from wi_t (n := 10) hw (by omega))]
  refine w_iconst (v := 1) dX7_size_13 (by decide) ?_
  refine y_callV dX7_size_14 lk_X7_256 [.int 1, .int 1] rfl (m_may_t E l (by omega) z9 1) (g_recv.obj (ci := 7) rfl (by decide) (show 79 < N by omega)) rfl ⟨⟨by decide, by decide⟩, by decide, by decide⟩ (lb rfl) ?_
  refine w_if_ne (tgt := 22) dX7_size_17 (by decide) (fun c_17 => ?_) (fun c_17 => absurd c_17 ((by decide)))
  refine w_iload_n dX7_size_22 rfl ?_
  rcases (show w = 0 ∨ w = 1 ∨ w = 2 ∨ w = 3 ∨ w = 4 ∨ w = 5 ∨ w = 6 ∨ w = 7 ∨ w = 8 ∨ w = 9 by omega) with rfl | rfl | rfl | rfl | rfl | rfl | rfl | rfl | rfl | rfl
  · refine w_tblIn (off := 49) (tgt := 72) dX7_size_23 (by decide) (by decide) (by decide) (by decide) ?_
    refine w_aload_n dX7_size_72 rfl ?_
    refine x_geti (ci := 7) (k := 15) dX7_size_73 rfl (by decide) (by decide) (by omega) fl_X7_98 rfl ?_
    refine w_iret dX7_size_76 rfl rfl ⟨_, _, rfl, ⟨h9.2.2.2.1.1, qP.at0 h 0⟩, rfl⟩ (by decide) (by decide)
  · refine w_tblIn (off := 54) (tgt := 77) dX7_size_23 (by decide) (by decide) (by decide) (by decide) ?_
    refine w_aload_n dX7_size_77 rfl ?_
    refine x_getr (ci := 7) (k := 0) (a := 80) dX7_size_78 rfl (by decide) (by decide) (by omega) fl_X7_7 (Or.inr ⟨_, rfl⟩) hR.2.1 ?_
    refine w_iconst (v := 0) dX7_size_81 (by decide) ?_
    refine x_iald (j := 0) dX7_size_82 rfl (by omega) rfl (show 0 < 172 by decide) ?_
    refine w_iret dX7_size_83 rfl rfl ⟨_, _, rfl, ⟨h9.1.1, qP.at0 h 0⟩, rfl⟩ (by decide) (by decide)
  · refine w_tblIn (off := 61) (tgt := 84) dX7_size_23 (by decide) (by decide) (by decide) (by decide) ?_
    refine w_aload_n dX7_size_84 rfl ?_
    refine x_getr (ci := 7) (k := 0) (a := 80) dX7_size_85 rfl (by decide) (by decide) (by omega) fl_X7_7 (Or.inr ⟨_, rfl⟩) hR.2.1 ?_
    refine w_bipush (v := 9) dX7_size_88 (by decide) ?_
    refine x_iald (j := 9) dX7_size_90 rfl (by omega) rfl (show 9 < 172 by decide) ?_
    refine w_iret dX7_size_91 rfl rfl ⟨_, _, rfl, ⟨h9.1.2.2.1, qP.at0 h 0⟩, rfl⟩ (by decide) (by decide)
  · refine w_tblIn (off := 69) (tgt := 92) dX7_size_23 (by decide) (by decide) (by decide) (by decide) ?_
    refine w_aload_n dX7_size_92 rfl ?_
    refine x_geti (ci := 7) (k := 16) dX7_size_93 rfl (by decide) (by decide) (by omega) fl_X7_225 rfl ?_
    refine w_iret dX7_size_96 rfl rfl ⟨_, _, rfl, ⟨h9.2.2.2.1.2.2, qP.at0 h 0⟩, rfl⟩ (by decide) (by decide)
  · refine w_tblIn (off := 74) (tgt := 97) dX7_size_23 (by decide) (by decide) (by decide) (by decide) ?_
    refine w_aload_n dX7_size_97 rfl ?_
    refine x_getr (ci := 7) (k := 0) (a := 80) dX7_size_98 rfl (by decide) (by decide) (by omega) fl_X7_7 (Or.inr ⟨_, rfl⟩) hR.2.1 ?_
    refine w_bipush (v := 10) dX7_size_101 (by decide) ?_
    refine x_iald (j := 10) dX7_size_103 rfl (by omega) rfl (show 10 < 172 by decide) ?_
    refine w_iret dX7_size_104 rfl rfl ⟨_, _, rfl, ⟨h9.1.2.2.2.1, qP.at0 h 0⟩, rfl⟩ (by decide) (by decide)
  · refine w_tblIn (off := 82) (tgt := 105) dX7_size_23 (by decide) (by decide) (by decide) (by decide) ?_
    refine w_aload_n dX7_size_105 rfl ?_
    refine x_geti (ci := 7) (k := 22) dX7_size_106 rfl (by decide) (by decide) (by omega) fl_X7_116 rfl ?_
    refine w_iret dX7_size_109 rfl rfl ⟨_, _, rfl, ⟨h9.2.2.2.2.2.1.1, qP.at0 h 0⟩, rfl⟩ (by decide) (by decide)
  · refine w_tblIn (off := 87) (tgt := 110) dX7_size_23 (by decide) (by decide) (by decide) (by decide) ?_
    refine w_aload_n dX7_size_110 rfl ?_
    refine x_getr (ci := 7) (k := 0) (a := 80) dX7_size_111 rfl (by decide) (by decide) (by omega) fl_X7_7 (Or.inr ⟨_, rfl⟩) hR.2.1 ?_
    refine w_bipush (v := 11) dX7_size_114 (by decide) ?_
    refine x_iald (j := 11) dX7_size_116 rfl (by omega) rfl (show 11 < 172 by decide) ?_
    refine w_iret dX7_size_117 rfl rfl ⟨_, _, rfl, ⟨h9.1.2.2.2.2.1, qP.at0 h 0⟩, rfl⟩ (by decide) (by decide)
  · refine w_tblIn (off := 95) (tgt := 118) dX7_size_23 (by decide) (by decide) (by decide) (by decide) ?_
    refine w_aload_n dX7_size_118 rfl ?_
    refine x_getr (ci := 7) (k := 0) (a := 80) dX7_size_119 rfl (by decide) (by decide) (by omega) fl_X7_7 (Or.inr ⟨_, rfl⟩) hR.2.1 ?_
    refine w_bipush (v := 11) dX7_size_122 (by decide) ?_
    refine x_iald (j := 11) dX7_size_124 rfl (by omega) rfl (show 11 < 172 by decide) ?_
    rw [show up2 I 79 17 0 80 11 = nI A.st.pl.length from h9.1.2.2.2.2.1]
    refine w_iconst (v := 2) dX7_size_125 (by decide) ?_
    refine w_irem dX7_size_126 (by decide) ?_
    refine w_st (show _ = [.int (plS A)] from by rw [show (2 : Int32) = nI 2 from rfl, pk_rem (by omega) (by omega) (by omega)]; rfl) ?_
    refine w_iret dX7_size_127 rfl rfl ⟨_, _, rfl, ⟨rfl, qP.at0 h 0⟩, rfl⟩ (by decide) (by decide)
  · refine w_tblIn (off := 105) (tgt := 128) dX7_size_23 (by decide) (by decide) (by decide) (by decide) ?_
    refine w_aload_n dX7_size_128 rfl ?_
    refine v_callV dX7_size_129 lk_X7_363 [] rfl (m_winner E l hR hA h9) (g_recv.obj (ci := 7) rfl (by decide) (show 79 < N by omega)) rfl ⟨⟨by decide, by decide⟩, by decide, by decide⟩ (lb rfl) (fun x_129 I2 h_129 => ?_)
    obtain ⟨k1, k2⟩ := h_129
    refine w_iret dX7_size_132 rfl rfl ⟨_, _, rfl, ⟨k1, qP.of k2.o ((h9.z k2).up (Nat.le_succ c))⟩, rfl⟩ (by decide) (by decide)
  · refine w_tblOut (tgt := 133) dX7_size_23 (by decide) (by decide) ?_
    refine w_aload_n dX7_size_133 rfl ?_
    refine x_geti (ci := 7) (k := 5) dX7_size_134 rfl (by decide) (by decide) (by omega) fl_X7_271 rfl ?_
    refine w_iret dX7_size_137 rfl rfl ⟨_, _, rfl, ⟨h9.2.1.2.1, qP.at0 h 0⟩, rfl⟩ (by decide) (by decide)
set_option maxRecDepth 100000 in
theorem m_size_x (hR : lkM R N) (hA : aOK A) (h : rM I A c) {w : Int32} (hw : w < 0 ∨ ¬ w < nI 10) : g_Ct E l mX7_size 7 158 0 0 [.ref 79, .int w] (I, J, R, D, N, ex) (g_is (some (.int 0)) (up2 (up2 I 79 17 0) 79 17 1, J, R, D, N, ex)) := by
  refine g_Ct.of (by decide +kernel) (lb rfl) ?_
  have hN := hR.1
  have h9 := h.thr 0
  have z9 : up2 I 79 17 0 79 17 = 0 := up2_s ..
  refine w_aload_n dX7_size_0 rfl ?_
  refine w_iconst (v := 0) dX7_size_1 (by decide) ?_
  refine x_puti (ci := 7) (k := 17) dX7_size_2 rfl (by decide) (by decide) (by omega) fl_X7_73 rfl rfl ?_
  refine w_aload_n dX7_size_5 rfl ?_
  refine w_iload_n dX7_size_6 rfl ?_
  refine w_iconst (v := 0) dX7_size_7 (by decide) ?_
  refine w_bipush (v := 9) dX7_size_8 (by decide) ?_
  refine y_callS dX7_size_10 lk_X7_77 [.int w, .int 0, .int 9] rfl (m_within E l _ _ _ _) rfl ⟨⟨by decide, by decide⟩, by decide, by decide⟩ (lb rfl) ?_
  rw [decide_eq_false (show ¬ (¬ w < 0 ∧ ¬ (9 : Int32) < w) from wi_f (n := 10) (by omega) hw)]
  refine w_iconst (v := 1) dX7_size_13 (by decide) ?_
  refine y_callV dX7_size_14 lk_X7_256 [.int 0, .int 1] rfl (m_may_f E l (by omega) z9 (by decide)) (g_recv.obj (ci := 7) rfl (by decide) (show 79 < N by omega)) rfl ⟨⟨by decide, by decide⟩, by decide, by decide⟩ (lb rfl) ?_
  refine w_if_ne (tgt := 22) dX7_size_17 (by decide) (fun c_17 => absurd (rfl) c_17) (fun c_17 => ?_)
  refine w_iconst (v := 0) dX7_size_20 (by decide) ?_
  refine w_iret dX7_size_21 rfl rfl ⟨rfl, rfl⟩ (by decide) (by decide)
set_option maxRecDepth 100000 in
theorem m_played_x1 (hR : lkM R N) (hA : aOK A) (h : rM I A c) {x : Int32} (hx : x < 0 ∨ ¬ x < nI A.st.pl.length) (w : Int32) : g_Ct E l mX7_played 1 22 0 0 [.ref 79, .int x, .int w] (I, J, R, D, N, ex) (g_is (some (.int 0)) (up2 (up2 I 79 17 0) 79 17 1, J, R, D, N, ex)) := by
  refine g_Ct.of (by decide +kernel) (lb rfl) ?_
  have hN := hR.1
  have h9 := h.thr 0
  have z9 : up2 I 79 17 0 79 17 = 0 := up2_s ..
  have hpl := hA.2.2.1.2.2.2.1
  refine w_aload_n dX7_played_0 rfl ?_
  refine w_iconst (v := 0) dX7_played_1 (by decide) ?_
  refine x_puti (ci := 7) (k := 17) dX7_played_2 rfl (by decide) (by decide) (by omega) fl_X7_73 rfl rfl ?_
  refine w_aload_n dX7_played_5 rfl ?_
  refine w_iload_n dX7_played_6 rfl ?_
  refine w_iconst (v := 0) dX7_played_7 (by decide) ?_
  refine w_aload_n dX7_played_8 rfl ?_
  refine x_getr (ci := 7) (k := 0) (a := 80) dX7_played_9 rfl (by decide) (by decide) (by omega) fl_X7_7 (Or.inr ⟨_, rfl⟩) hR.2.1 ?_
  refine w_bipush (v := 11) dX7_played_12 (by decide) ?_
  refine x_iald (j := 11) dX7_played_14 rfl (by omega) rfl (show 11 < 172 by decide) ?_
  rw [show up2 I 79 17 0 80 11 = nI A.st.pl.length from h9.1.2.2.2.2.1]
  refine w_iconst (v := 1) dX7_played_15 (by decide) ?_
  refine w_isub dX7_played_16 ?_
  refine y_callS dX7_played_17 lk_X7_77 [.int x, .int 0, .int (nI A.st.pl.length - 1)] rfl (m_within E l _ _ _ _) rfl ⟨⟨by decide, by decide⟩, by decide, by decide⟩ (lb rfl) ?_
  rw [decide_eq_false (wi_f (by omega) hx)]
  refine w_iconst (v := 1) dX7_played_20 (by decide) ?_
  refine y_callV dX7_played_21 lk_X7_256 [.int 0, .int 1] rfl (m_may_f E l (by omega) z9 (by decide)) (g_recv.obj (ci := 7) rfl (by decide) (show 79 < N by omega)) rfl ⟨⟨by decide, by decide⟩, by decide, by decide⟩ (lb rfl) ?_
  refine w_if_eq (tgt := 57) dX7_played_24 (by decide) (fun c_24 => ?_) (fun c_24 => absurd (rfl) c_24)
  refine w_iconst (v := 0) dX7_played_57 (by decide) ?_
  refine w_iret dX7_played_58 rfl rfl ⟨rfl, rfl⟩ (by decide) (by decide)
set_option maxRecDepth 100000 in
theorem m_played_x2 (hR : lkM R N) (hA : aOK A) (h : rM I A c) {i : Nat} (hi : i < A.st.pl.length) {w : Int32} (hw : w < 0 ∨ ¬ w < nI 4) : g_Ct E l mX7_played 1 22 0 0 [.ref 79, .int (nI i), .int w] (I, J, R, D, N, ex) (g_is (some (.int 0)) (up2 (up2 I 79 17 0) 79 17 2, J, R, D, N, ex)) := by
  refine g_Ct.of (by decide +kernel) (lb rfl) ?_
  have hN := hR.1
  have h9 := h.thr 0
  have z9 : up2 I 79 17 0 79 17 = 0 := up2_s ..
  have hpl := hA.2.2.1.2.2.2.1
  refine w_aload_n dX7_played_0 rfl ?_
  refine w_iconst (v := 0) dX7_played_1 (by decide) ?_
  refine x_puti (ci := 7) (k := 17) dX7_played_2 rfl (by decide) (by decide) (by omega) fl_X7_73 rfl rfl ?_
  refine w_aload_n dX7_played_5 rfl ?_
  refine w_iload_n dX7_played_6 rfl ?_
  refine w_iconst (v := 0) dX7_played_7 (by decide) ?_
  refine w_aload_n dX7_played_8 rfl ?_
  refine x_getr (ci := 7) (k := 0) (a := 80) dX7_played_9 rfl (by decide) (by decide) (by omega) fl_X7_7 (Or.inr ⟨_, rfl⟩) hR.2.1 ?_
  refine w_bipush (v := 11) dX7_played_12 (by decide) ?_
  refine x_iald (j := 11) dX7_played_14 rfl (by omega) rfl (show 11 < 172 by decide) ?_
  rw [show up2 I 79 17 0 80 11 = nI A.st.pl.length from h9.1.2.2.2.2.1]
  refine w_iconst (v := 1) dX7_played_15 (by decide) ?_
  refine w_isub dX7_played_16 ?_
  refine y_callS dX7_played_17 lk_X7_77 [.int (nI i), .int 0, .int (nI A.st.pl.length - 1)] rfl (m_within E l _ _ _ _) rfl ⟨⟨by decide, by decide⟩, by decide, by decide⟩ (lb rfl) ?_
  rw [decide_eq_true (wi_t hi (by omega))]
  refine w_iconst (v := 1) dX7_played_20 (by decide) ?_
  refine y_callV dX7_played_21 lk_X7_256 [.int 1, .int 1] rfl (m_may_t E l (by omega) z9 1) (g_recv.obj (ci := 7) rfl (by decide) (show 79 < N by omega)) rfl ⟨⟨by decide, by decide⟩, by decide, by decide⟩ (lb rfl) ?_
  refine w_if_eq (tgt := 57) dX7_played_24 (by decide) (fun c_24 => absurd c_24 ((by decide))) (fun c_24 => ?_)
  refine w_aload_n dX7_played_27 rfl ?_
  refine w_iload_n dX7_played_28 rfl ?_
  refine w_iconst (v := 0) dX7_played_29 (by decide) ?_
  refine w_iconst (v := 3) dX7_played_30 (by decide) ?_
  refine y_callS dX7_played_31 lk_X7_77 [.int w, .int 0, .int 3] rfl (m_within E l _ _ _ _) rfl ⟨⟨by decide, by decide⟩, by decide, by decide⟩ (lb rfl) ?_
  rw [decide_eq_false (show ¬ (¬ w < 0 ∧ ¬ (3 : Int32) < w) from wi_f (n := 4) (by omega) hw)]
  refine w_iconst (v := 2) dX7_played_34 (by decide) ?_
  refine y_callV dX7_played_35 lk_X7_256 [.int 0, .int 2] rfl (m_may_f E l (by omega) z9 (by decide)) (g_recv.obj (ci := 7) rfl (by decide) (show 79 < N by omega)) rfl ⟨⟨by decide, by decide⟩, by decide, by decide⟩ (lb rfl) ?_
  refine w_if_eq (tgt := 57) dX7_played_38 (by decide) (fun c_38 => ?_) (fun c_38 => absurd (rfl) c_38)
  refine w_iconst (v := 0) dX7_played_57 (by decide) ?_
  refine w_iret dX7_played_58 rfl rfl ⟨rfl, rfl⟩ (by decide) (by decide)
set_option maxRecDepth 100000 in
theorem m_played (hR : lkM R N) (hA : aOK A) (h : rM I A c) {i : Nat} (hi : i < A.st.pl.length) {w : Nat} (hw : w < 4) : g_Ct E l mX7_played 1 22 0 0 [.ref 79, .int (nI i), .int (nI w)] (I, J, R, D, N, ex) (g_is (some (.int (plA A i w))) (up2 I 79 17 0, J, R, D, N, ex)) := by
  refine g_Ct.of (by decide +kernel) (lb rfl) ?_
  have hN := hR.1
  have h9 := h.thr 0
  have z9 : up2 I 79 17 0 79 17 = 0 := up2_s ..
  have hpl := hA.2.2.1.2.2.2.1
  have hd := h9.1.2.2.2.2.2 i hi w hw
  rw [show 0 + 12 + 4 * i + w = 12 + 4 * i + w by omega] at hd
  refine w_aload_n dX7_played_0 rfl ?_
  refine w_iconst (v := 0) dX7_played_1 (by decide) ?_
  refine x_puti (ci := 7) (k := 17) dX7_played_2 rfl (by decide) (by decide) (by omega) fl_X7_73 rfl rfl ?_
  refine w_aload_n dX7_played_5 rfl ?_
  refine w_iload_n dX7_played_6 rfl ?_
  refine w_iconst (v := 0) dX7_played_7 (by decide) ?_
  refine w_aload_n dX7_played_8 rfl ?_
  refine x_getr (ci := 7) (k := 0) (a := 80) dX7_played_9 rfl (by decide) (by decide) (by omega) fl_X7_7 (Or.inr ⟨_, rfl⟩) hR.2.1 ?_
  refine w_bipush (v := 11) dX7_played_12 (by decide) ?_
  refine x_iald (j := 11) dX7_played_14 rfl (by omega) rfl (show 11 < 172 by decide) ?_
  rw [show up2 I 79 17 0 80 11 = nI A.st.pl.length from h9.1.2.2.2.2.1]
  refine w_iconst (v := 1) dX7_played_15 (by decide) ?_
  refine w_isub dX7_played_16 ?_
  refine y_callS dX7_played_17 lk_X7_77 [.int (nI i), .int 0, .int (nI A.st.pl.length - 1)] rfl (m_within E l _ _ _ _) rfl ⟨⟨by decide, by decide⟩, by decide, by decide⟩ (lb rfl) ?_
  rw [decide_eq_true (wi_t hi (by omega))]
  refine w_iconst (v := 1) dX7_played_20 (by decide) ?_
  refine y_callV dX7_played_21 lk_X7_256 [.int 1, .int 1] rfl (m_may_t E l (by omega) z9 1) (g_recv.obj (ci := 7) rfl (by decide) (show 79 < N by omega)) rfl ⟨⟨by decide, by decide⟩, by decide, by decide⟩ (lb rfl) ?_
  refine w_if_eq (tgt := 57) dX7_played_24 (by decide) (fun c_24 => absurd c_24 ((by decide))) (fun c_24 => ?_)
  refine w_aload_n dX7_played_27 rfl ?_
  refine w_iload_n dX7_played_28 rfl ?_
  refine w_iconst (v := 0) dX7_played_29 (by decide) ?_
  refine w_iconst (v := 3) dX7_played_30 (by decide) ?_
  refine y_callS dX7_played_31 lk_X7_77 [.int (nI w), .int 0, .int 3] rfl (m_within E l _ _ _ _) rfl ⟨⟨by decide, by decide⟩, by decide, by decide⟩ (lb rfl) ?_
  rw [decide_eq_true (show ¬ nI w < 0 ∧ ¬ (3 : Int32) < nI w from wi_t (n := 4) hw (by omega))]
  refine w_iconst (v := 2) dX7_played_34 (by decide) ?_
  refine y_callV dX7_played_35 lk_X7_256 [.int 1, .int 2] rfl (m_may_t E l (by omega) z9 2) (g_recv.obj (ci := 7) rfl (by decide) (show 79 < N by omega)) rfl ⟨⟨by decide, by decide⟩, by decide, by decide⟩ (lb rfl) ?_
  refine w_if_eq (tgt := 57) dX7_played_38 (by decide) (fun c_38 => absurd c_38 ((by decide))) (fun c_38 => ?_)
  refine w_aload_n dX7_played_41 rfl ?_
  refine x_getr (ci := 7) (k := 0) (a := 80) dX7_played_42 rfl (by decide) (by decide) (by omega) fl_X7_7 (Or.inr ⟨_, rfl⟩) hR.2.1 ?_
  refine w_bipush (v := 12) dX7_played_45 (by decide) ?_
  refine w_iconst (v := 4) dX7_played_47 (by decide) ?_
  refine w_iload_n dX7_played_48 rfl ?_
  refine w_imul dX7_played_49 ?_
  refine w_st (show _ = [.int (nI (4 * i)), .int 12, .ref 80] from by rw [← pk_mul]; rfl) ?_
  refine w_iadd dX7_played_50 ?_
  refine w_st (show _ = [.int (nI (12 + 4 * i)), .ref 80] from by rw [← nI_add]; rfl) ?_
  refine w_iload_n dX7_played_51 rfl ?_
  refine w_iadd dX7_played_52 ?_
  rw [nI_add]
  refine x_iald (j := 12 + 4 * i + w) dX7_played_53 rfl (by omega) rfl (show 12 + 4 * i + w < 172 by omega) ?_
  rw [hd]
  refine w_goto (tgt := 58) dX7_played_54 (by decide) ?_
  refine w_iret dX7_played_58 rfl rfl ⟨rfl, rfl⟩ (by decide) (by decide)
end MQ
