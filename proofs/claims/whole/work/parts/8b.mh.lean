/-! HeapGamesModel: read, readsHeap, readsShared -/
def rdN (tx : Nat → Nat) (L a hi : Nat) : (Nat × Nat) ⊕ Nat := if isNu tx L a = false then .inl (tkS tx L a, 1) else if hi < nmT tx L a then .inl (tkS tx L a, 3) else .inr (nmT tx L a)
def rnQ (I : Nat → Nat → Int32) (J : Nat → Nat → Int64) (tx : Nat → Nat) (L a : Nat) (x : Int32) (I' : Nat → Nat → Int32) (J' : Nat → Nat → Int64) (r : (Nat × Nat) ⊕ Nat) : Prop := frU I I' J J' ∧ match r with
  | .inl q => x = nI 0 ∧ I' 79 28 = nI q.2 ∧ I' 79 29 = nI q.1 ∧ q.2 ≠ 0 ∧ q.2 ≤ 5
  | .inr v => x = nI v ∧ I' 79 28 = nI 0 ∧ mtC I' J' tx L (tkE tx L a)
def rdShM (tx : Nat → Nat) (L a : Nat) (P : PS) : RdO :=
  if P.sh ≠ [] then .inl (tkS tx L a, 2) else
  match amM tx L 15 9 (tkE tx L a) [] with
  | .inl q => .inl q
  | .inr q => .inr ((P.ru, P.hs, P.ps, P.hp, P.mi, q.1), q.2)
def heM (P : PS) (rr e : Nat) (M : (Nat × Nat) ⊕ Nat) : RdO := match M with
  | .inl q => .inl q
  | .inr v => .inr ((P.ru, P.hs ++ [(rr, v)], P.2.2), e)
theorem shM_app (l : List Nat) (a : Nat) : shM (l ++ [a]) = shM l ||| 2 ^ a := by unfold shM; rw [List.foldl_append]; rfl
theorem frW.er {I I' : Nat → Nat → Int32} {J J' : Nat → Nat → Int64} (h : frW I I' J J') (k x : Int32) : frW I (up2 (up2 I' 79 28 k) 79 29 x) J J' := (h.up (by decide) _).up (by decide) _
section MC2
variable (E : GE) (l : Launch)
variable {I : Nat → Nat → Int32} {J : Nat → Nat → Int64} {R : Nat → Nat → Option Nat} {D : Nat → Nat → UInt64} {N : Nat} {ex : Bool} {tx : Nat → Nat} {L a : Nat} {P : PS}
set_option maxRecDepth 100000 in
theorem m_read_b (hR : lkM R N) {e : Nat} (h : I 79 28 = nI e) (he : e ≠ 0 ∧ e ≤ 5) (x y : Int32) : g_Ct E l mX7_read 4 82 0 0 [.ref 79, .int x, .int y] (I, J, R, D, N, ex) (g_is (some (.int x)) (I, J, R, D, N, ex)) := by
  refine g_Ct.of (by decide +kernel) (lb rfl) ?_
  have hN := hR.1
  refine w_aload_n dX7_read_0 rfl ?_
  refine w_aload_n dX7_read_1 rfl ?_
  refine x_geti (ci := 7) (k := 26) dX7_read_2 rfl (by decide) (by decide) (by omega) fl_X7_143 rfl ?_
  refine w_iconst (v := 2) dX7_read_5 (by decide) ?_
  refine w_icmp_ne (tgt := 13) dX7_read_6 (by decide) (fun c_6 => ?_) (fun c_6 => ?_)
  · refine w_iconst (v := 0) dX7_read_13 (by decide) ?_
    refine w_iconst (v := 1) dX7_read_14 (by decide) ?_
    refine y_callV dX7_read_15 lk_X7_183 [.int _, .int 1] rfl (m_must_b E l hR h he _ _) (g_recv.obj (ci := 7) rfl (by decide) (show 79 < N by omega)) rfl ⟨⟨by decide, by decide⟩, by decide, by decide⟩ (lb rfl) ?_
    refine w_pop dX7_read_18 rfl ?_
    refine w_aload_n dX7_read_19 rfl ?_
    refine w_aload_n dX7_read_20 rfl ?_
    refine x_geti (ci := 7) (k := 27) dX7_read_21 rfl (by decide) (by decide) (by omega) fl_X7_146 rfl ?_
    refine w_iload_n dX7_read_24 rfl ?_
    refine w_iload_n dX7_read_25 rfl ?_
    refine y_callS dX7_read_26 lk_X7_77 [.int (I 79 27), .int x, .int y] rfl (m_within E l _ _ _ _) rfl ⟨⟨by decide, by decide⟩, by decide, by decide⟩ (lb rfl) ?_
    refine w_iconst (v := 3) dX7_read_29 (by decide) ?_
    refine y_callV dX7_read_30 lk_X7_183 [.int _, .int 3] rfl (m_must_b E l hR h he _ _) (g_recv.obj (ci := 7) rfl (by decide) (show 79 < N by omega)) rfl ⟨⟨by decide, by decide⟩, by decide, by decide⟩ (lb rfl) ?_
    refine w_pop dX7_read_33 rfl ?_
    refine w_aload_n dX7_read_34 rfl ?_
    refine y_callV dX7_read_35 lk_X7_161 [] rfl (m_isGood E l hR h he.2) (g_recv.obj (ci := 7) rfl (by decide) (show 79 < N by omega)) rfl ⟨⟨by decide, by decide⟩, by decide, by decide⟩ (lb rfl) ?_
    rw [decide_eq_false he.1]
    refine w_if_eq (tgt := 48) dX7_read_38 (by decide) (fun c_38 => ?_) (fun c_38 => absurd (rfl) c_38)
    refine w_iload_n dX7_read_48 rfl ?_
    refine w_istore_n dX7_read_49 (by decide) rfl ?_
    refine w_aload_n dX7_read_50 rfl ?_
    refine z_callV dX7_read_51 lk_X7_204 [] rfl (m_goOn_b E l hR h he) (g_recv.obj (ci := 7) rfl (by decide) (show 79 < N by omega)) rfl ⟨⟨by decide, by decide⟩, by decide, by decide⟩ (lb rfl) ?_
    refine w_iload_n dX7_read_54 rfl ?_
    refine w_iret dX7_read_55 rfl rfl ⟨rfl, rfl⟩ (by decide) (by decide)
  · refine w_iconst (v := 1) dX7_read_9 (by decide) ?_
    refine w_goto (tgt := 14) dX7_read_10 (by decide) ?_
    refine w_iconst (v := 1) dX7_read_14 (by decide) ?_
    refine y_callV dX7_read_15 lk_X7_183 [.int _, .int 1] rfl (m_must_b E l hR h he _ _) (g_recv.obj (ci := 7) rfl (by decide) (show 79 < N by omega)) rfl ⟨⟨by decide, by decide⟩, by decide, by decide⟩ (lb rfl) ?_
    refine w_pop dX7_read_18 rfl ?_
    refine w_aload_n dX7_read_19 rfl ?_
    refine w_aload_n dX7_read_20 rfl ?_
    refine x_geti (ci := 7) (k := 27) dX7_read_21 rfl (by decide) (by decide) (by omega) fl_X7_146 rfl ?_
    refine w_iload_n dX7_read_24 rfl ?_
    refine w_iload_n dX7_read_25 rfl ?_
    refine y_callS dX7_read_26 lk_X7_77 [.int (I 79 27), .int x, .int y] rfl (m_within E l _ _ _ _) rfl ⟨⟨by decide, by decide⟩, by decide, by decide⟩ (lb rfl) ?_
    refine w_iconst (v := 3) dX7_read_29 (by decide) ?_
    refine y_callV dX7_read_30 lk_X7_183 [.int _, .int 3] rfl (m_must_b E l hR h he _ _) (g_recv.obj (ci := 7) rfl (by decide) (show 79 < N by omega)) rfl ⟨⟨by decide, by decide⟩, by decide, by decide⟩ (lb rfl) ?_
    refine w_pop dX7_read_33 rfl ?_
    refine w_aload_n dX7_read_34 rfl ?_
    refine y_callV dX7_read_35 lk_X7_161 [] rfl (m_isGood E l hR h he.2) (g_recv.obj (ci := 7) rfl (by decide) (show 79 < N by omega)) rfl ⟨⟨by decide, by decide⟩, by decide, by decide⟩ (lb rfl) ?_
    rw [decide_eq_false he.1]
    refine w_if_eq (tgt := 48) dX7_read_38 (by decide) (fun c_38 => ?_) (fun c_38 => absurd (rfl) c_38)
    refine w_iload_n dX7_read_48 rfl ?_
    refine w_istore_n dX7_read_49 (by decide) rfl ?_
    refine w_aload_n dX7_read_50 rfl ?_
    refine z_callV dX7_read_51 lk_X7_204 [] rfl (m_goOn_b E l hR h he) (g_recv.obj (ci := 7) rfl (by decide) (show 79 < N by omega)) rfl ⟨⟨by decide, by decide⟩, by decide, by decide⟩ (lb rfl) ?_
    refine w_iload_n dX7_read_54 rfl ?_
    refine w_iret dX7_read_55 rfl rfl ⟨rfl, rfl⟩ (by decide) (by decide)
set_option maxRecDepth 100000 in
theorem m_read (hR : lkM R N) (hg : I 79 28 = nI 0) (hr : mtx I tx L) (hm : mtC I J tx L a) (ha : a ≤ L) {hi : Nat} (hhi : hi < 100) : g_Ct E l mX7_read 4 82 0 0 [.ref 79, .int (nI 0), .int (nI hi)] (I, J, R, D, N, ex) (g_rj (fun x I' J' => rnQ I J tx L a x I' J' (rdN tx L a hi)) R D N ex) := by
  refine g_Ct.of (by decide +kernel) (lb rfl) ?_
  have hN := hR.1
  have hL := hr.2.1
  have hb := tk_b (tx := tx) ha
  have hmk := mtk_le tx L a
  generalize hq : rdN tx L a hi = Q
  unfold rdN at hq
  cases hu : isNu tx L a with
  | false =>
    rw [if_pos hu] at hq
    have hm2 : mtk tx L a ≠ 2 := fun q => by rw [mtk_2.mp q] at hu; cases hu
    have h28 : (up2 (up2 I 79 28 (nI 1)) 79 29 (I 79 24)) 79 28 = nI 1 := by rw [up2_n _ _ (by simp), up2_s]
    refine w_aload_n dX7_read_0 rfl ?_
    refine w_aload_n dX7_read_1 rfl ?_
    refine x_geti (ci := 7) (k := 26) dX7_read_2 rfl (by decide) (by decide) (by omega) fl_X7_143 rfl ?_
    rw [hm.2.2.1]
    refine w_iconst (v := 2) dX7_read_5 (by decide) ?_
    refine w_icmp_ne (tgt := 13) dX7_read_6 (by decide) (fun c_6 => ?_) (fun c_6 => absurd c_6 ((fun q => hm2 (n_eq (b := 2) q))))
    refine w_iconst (v := 0) dX7_read_13 (by decide) ?_
    refine w_iconst (v := 1) dX7_read_14 (by decide) ?_
    refine y_callV dX7_read_15 lk_X7_183 [.int 0, .int (nI 1)] rfl (m_must_f E l hR hg (k := 1) (by decide)) (g_recv.obj (ci := 7) rfl (by decide) (show 79 < N by omega)) rfl ⟨⟨by decide, by decide⟩, by decide, by decide⟩ (lb rfl) ?_
    refine w_pop dX7_read_18 rfl ?_
    refine w_aload_n dX7_read_19 rfl ?_
    refine w_aload_n dX7_read_20 rfl ?_
    refine x_geti (ci := 7) (k := 27) dX7_read_21 rfl (by decide) (by decide) (by omega) fl_X7_146 rfl ?_
    refine w_iload_n dX7_read_24 rfl ?_
    refine w_iload_n dX7_read_25 rfl ?_
    refine y_callS dX7_read_26 lk_X7_77 [.int _, .int (nI 0), .int (nI hi)] rfl (m_within E l _ _ _ _) rfl ⟨⟨by decide, by decide⟩, by decide, by decide⟩ (lb rfl) ?_
    refine w_iconst (v := 3) dX7_read_29 (by decide) ?_
    refine y_callV dX7_read_30 lk_X7_183 [.int _, .int 3] rfl (m_must_b E l hR h28 (by decide) _ _) (g_recv.obj (ci := 7) rfl (by decide) (show 79 < N by omega)) rfl ⟨⟨by decide, by decide⟩, by decide, by decide⟩ (lb rfl) ?_
    refine w_pop dX7_read_33 rfl ?_
    refine w_aload_n dX7_read_34 rfl ?_
    refine y_callV dX7_read_35 lk_X7_161 [] rfl (m_isGood E l hR h28 (by decide)) (g_recv.obj (ci := 7) rfl (by decide) (show 79 < N by omega)) rfl ⟨⟨by decide, by decide⟩, by decide, by decide⟩ (lb rfl) ?_
    refine w_if_eq (tgt := 48) dX7_read_38 (by decide) (fun c_38 => ?_) (fun c_38 => absurd (rfl) c_38)
    refine w_iload_n dX7_read_48 rfl ?_
    refine w_istore_n dX7_read_49 (by decide) rfl ?_
    refine w_aload_n dX7_read_50 rfl ?_
    refine z_callV dX7_read_51 lk_X7_204 [] rfl (m_goOn_b E l hR h28 (by decide)) (g_recv.obj (ci := 7) rfl (by decide) (show 79 < N by omega)) rfl ⟨⟨by decide, by decide⟩, by decide, by decide⟩ (lb rfl) ?_
    refine w_iload_n dX7_read_54 rfl ?_
    refine w_iret dX7_read_55 rfl rfl ⟨_, _, _, rfl, (by rw [← hq]; exact ⟨(frU.refl I J).er _ _, rfl, h28, by rw [up2_s]; exact hm.1, (by dsimp only; decide), (by dsimp only; decide)⟩), rfl⟩ (by decide) (by decide)
  | true =>
    rw [if_neg (by rw [hu]; decide)] at hq
    have hm2 : mtk tx L a = 2 := mtk_2.mpr hu
    have hv := nmT_lt hu
    have hnum := hm.2.2.2.2 hm2
    by_cases h3 : hi < nmT tx L a
    · rw [if_pos h3] at hq
      have h28 : (up2 (up2 I 79 28 (nI 3)) 79 29 (I 79 24)) 79 28 = nI 3 := by rw [up2_n _ _ (by simp), up2_s]
      refine w_aload_n dX7_read_0 rfl ?_
      refine w_aload_n dX7_read_1 rfl ?_
      refine x_geti (ci := 7) (k := 26) dX7_read_2 rfl (by decide) (by decide) (by omega) fl_X7_143 rfl ?_
      rw [hm.2.2.1, hm2]
      refine w_iconst (v := 2) dX7_read_5 (by decide) ?_
      refine w_icmp_ne (tgt := 13) dX7_read_6 (by decide) (fun c_6 => absurd (rfl) c_6) (fun c_6 => ?_)
      refine w_iconst (v := 1) dX7_read_9 (by decide) ?_
      refine w_goto (tgt := 14) dX7_read_10 (by decide) ?_
      refine w_iconst (v := 1) dX7_read_14 (by decide) ?_
      refine y_callV dX7_read_15 lk_X7_183 [.int 1, .int 1] rfl (m_must_t E l hR hg 1) (g_recv.obj (ci := 7) rfl (by decide) (show 79 < N by omega)) rfl ⟨⟨by decide, by decide⟩, by decide, by decide⟩ (lb rfl) ?_
      refine w_pop dX7_read_18 rfl ?_
      refine w_aload_n dX7_read_19 rfl ?_
      refine w_aload_n dX7_read_20 rfl ?_
      refine x_geti (ci := 7) (k := 27) dX7_read_21 rfl (by decide) (by decide) (by omega) fl_X7_146 rfl ?_
      rw [hnum]
      refine w_iload_n dX7_read_24 rfl ?_
      refine w_iload_n dX7_read_25 rfl ?_
      refine y_callS dX7_read_26 lk_X7_77 [.int (nI (nmT tx L a)), .int (nI 0), .int (nI hi)] rfl (m_within E l _ _ _ _) rfl ⟨⟨by decide, by decide⟩, by decide, by decide⟩ (lb rfl) ?_
      rw [decide_eq_false (show ¬ (¬ nI (nmT tx L a) < nI 0 ∧ ¬ nI hi < nI (nmT tx L a)) from fun q => q.2 (nI_lt (by omega) (by omega)))]
      refine w_iconst (v := 3) dX7_read_29 (by decide) ?_
      refine y_callV dX7_read_30 lk_X7_183 [.int 0, .int (nI 3)] rfl (m_must_f E l hR hg (k := 3) (by decide)) (g_recv.obj (ci := 7) rfl (by decide) (show 79 < N by omega)) rfl ⟨⟨by decide, by decide⟩, by decide, by decide⟩ (lb rfl) ?_
      refine w_pop dX7_read_33 rfl ?_
      refine w_aload_n dX7_read_34 rfl ?_
      refine y_callV dX7_read_35 lk_X7_161 [] rfl (m_isGood E l hR h28 (by decide)) (g_recv.obj (ci := 7) rfl (by decide) (show 79 < N by omega)) rfl ⟨⟨by decide, by decide⟩, by decide, by decide⟩ (lb rfl) ?_
      refine w_if_eq (tgt := 48) dX7_read_38 (by decide) (fun c_38 => ?_) (fun c_38 => absurd (rfl) c_38)
      refine w_iload_n dX7_read_48 rfl ?_
      refine w_istore_n dX7_read_49 (by decide) rfl ?_
      refine w_aload_n dX7_read_50 rfl ?_
      refine z_callV dX7_read_51 lk_X7_204 [] rfl (m_goOn_b E l hR h28 (by decide)) (g_recv.obj (ci := 7) rfl (by decide) (show 79 < N by omega)) rfl ⟨⟨by decide, by decide⟩, by decide, by decide⟩ (lb rfl) ?_
      refine w_iload_n dX7_read_54 rfl ?_
      refine w_iret dX7_read_55 rfl rfl ⟨_, _, _, rfl, (by rw [← hq]; exact ⟨(frU.refl I J).er _ _, rfl, h28, by rw [up2_s]; exact hm.1, (by dsimp only; decide), (by dsimp only; decide)⟩), rfl⟩ (by decide) (by decide)
    · rw [if_neg h3] at hq
      refine w_aload_n dX7_read_0 rfl ?_
      refine w_aload_n dX7_read_1 rfl ?_
      refine x_geti (ci := 7) (k := 26) dX7_read_2 rfl (by decide) (by decide) (by omega) fl_X7_143 rfl ?_
      rw [hm.2.2.1, hm2]
      refine w_iconst (v := 2) dX7_read_5 (by decide) ?_
      refine w_icmp_ne (tgt := 13) dX7_read_6 (by decide) (fun c_6 => absurd (rfl) c_6) (fun c_6 => ?_)
      refine w_iconst (v := 1) dX7_read_9 (by decide) ?_
      refine w_goto (tgt := 14) dX7_read_10 (by decide) ?_
      refine w_iconst (v := 1) dX7_read_14 (by decide) ?_
      refine y_callV dX7_read_15 lk_X7_183 [.int 1, .int 1] rfl (m_must_t E l hR hg 1) (g_recv.obj (ci := 7) rfl (by decide) (show 79 < N by omega)) rfl ⟨⟨by decide, by decide⟩, by decide, by decide⟩ (lb rfl) ?_
      refine w_pop dX7_read_18 rfl ?_
      refine w_aload_n dX7_read_19 rfl ?_
      refine w_aload_n dX7_read_20 rfl ?_
      refine x_geti (ci := 7) (k := 27) dX7_read_21 rfl (by decide) (by decide) (by omega) fl_X7_146 rfl ?_
      rw [hnum]
      refine w_iload_n dX7_read_24 rfl ?_
      refine w_iload_n dX7_read_25 rfl ?_
      refine y_callS dX7_read_26 lk_X7_77 [.int (nI (nmT tx L a)), .int (nI 0), .int (nI hi)] rfl (m_within E l _ _ _ _) rfl ⟨⟨by decide, by decide⟩, by decide, by decide⟩ (lb rfl) ?_
      rw [decide_eq_true (show ¬ nI (nmT tx L a) < nI 0 ∧ ¬ nI hi < nI (nmT tx L a) from ⟨nI_nlt (b := 0) (by omega) (by omega), nI_nlt (by omega) (by omega)⟩)]
      refine w_iconst (v := 3) dX7_read_29 (by decide) ?_
      refine y_callV dX7_read_30 lk_X7_183 [.int 1, .int 3] rfl (m_must_t E l hR hg 3) (g_recv.obj (ci := 7) rfl (by decide) (show 79 < N by omega)) rfl ⟨⟨by decide, by decide⟩, by decide, by decide⟩ (lb rfl) ?_
      refine w_pop dX7_read_33 rfl ?_
      refine w_aload_n dX7_read_34 rfl ?_
      refine y_callV dX7_read_35 lk_X7_161 [] rfl (m_isGood E l hR hg (by decide)) (g_recv.obj (ci := 7) rfl (by decide) (show 79 < N by omega)) rfl ⟨⟨by decide, by decide⟩, by decide, by decide⟩ (lb rfl) ?_
      refine w_if_eq (tgt := 48) dX7_read_38 (by decide) (fun c_38 => absurd c_38 ((by decide))) (fun c_38 => ?_)
      refine w_aload_n dX7_read_41 rfl ?_
      refine x_geti (ci := 7) (k := 27) dX7_read_42 rfl (by decide) (by decide) (by omega) fl_X7_146 rfl ?_
      rw [hnum]
      refine w_goto (tgt := 49) dX7_read_45 (by decide) ?_
      refine w_istore_n dX7_read_49 (by decide) rfl ?_
      refine w_aload_n dX7_read_50 rfl ?_
      refine k_callV dX7_read_51 lk_X7_204 [] rfl (m_goOn E l hR hg hr hb.2.2.2.1 hm.2.1) (g_recv.obj (ci := 7) rfl (by decide) (show 79 < N by omega)) rfl ⟨⟨by decide, by decide⟩, by decide, by decide⟩ (lb rfl) (fun I2 J2 h_51 => ?_)
      obtain ⟨k1, k2⟩ := h_51
      refine w_iload_n dX7_read_54 rfl ?_
      refine w_iret dX7_read_55 rfl rfl ⟨_, _, _, rfl, (by rw [← hq]; exact ⟨k1.u, rfl, by rw [k1.2.1 28 (by decide)]; exact hg, k2⟩), rfl⟩ (by decide) (by decide)
set_option maxRecDepth 100000 in
theorem m_readsHeap (hR : lkM R N) (hg : I 79 28 = nI 0) (hr : mtx I tx L) (hm : mtC I J tx L a) (ha : a ≤ L) (hp : pmC I J P) (hP : psOK P) : g_Ct E l mX7_readsHeap 5 105 0 0 [.ref 79] (I, J, R, D, N, ex) (g_rk (fun I' J' => rsQ I J tx L I' J' (rdHe tx L a P)) R D N ex) := by
  refine g_Ct.of (by decide +kernel) (lb rfl) ?_
  have hN := hR.1
  have hL := hr.2.1
  have hb := tk_b (tx := tx) ha
  have hb2 := tk_b (tx := tx) hb.2.2.2.1
  have hb3 := tk_b (tx := tx) hb2.2.2.2.1
  have h6 : P.ru.length ≤ 6 := hP.2.1
  have h4 : P.hs.length ≤ 4 := hP.2.2.1.1
  generalize hq : rdHe tx L a P = Q
  unfold rdHe at hq
  have b92 : ∀ (x y : Int32) (I' : Nat → Nat → Int32) (J' : Nat → Nat → Int64) (e : Nat), I' 79 28 = nI e → e ≠ 0 ∧ e ≤ 5 → rsQ I J tx L I' J' Q → g_Wp E l mX7_readsHeap { frames := 5, cells := 0, slots := 0, locals := 105 } (g_Fin E (g_rk (fun I' J' => rsQ I J tx L I' J' Q) R D N ex) 0 0) 0 0 92 [(2, .int y), (1, .int x), (0, .ref 79)] [] (I', J', R, D, N, ex) := by
    intro x y I' J' e h1 h2 h3
    refine w_aload_n dX7_readsHeap_92 rfl ?_
    refine y_callV dX7_readsHeap_93 lk_X7_161 [] rfl (m_isGood E l hR h1 h2.2) (g_recv.obj (ci := 7) rfl (by decide) (show 79 < N by omega)) rfl ⟨⟨by decide, by decide⟩, by decide, by decide⟩ (lb rfl) ?_
    rw [decide_eq_false h2.1]
    refine w_if_ne (tgt := 100) dX7_readsHeap_96 (by decide) (fun c_96 => absurd (rfl) c_96) (fun c_96 => ?_)
    refine w_vret dX7_readsHeap_99 rfl ⟨_, _, rfl, h3, rfl⟩ (by decide) (by decide)
  have b80 : ∀ (x : Int32) (I' : Nat → Nat → Int32) (J' : Nat → Nat → Int64) (e : Nat), I' 79 28 = nI e → e ≠ 0 ∧ e ≤ 5 → rsQ I J tx L I' J' Q → g_Wp E l mX7_readsHeap { frames := 5, cells := 0, slots := 0, locals := 105 } (g_Fin E (g_rk (fun I' J' => rsQ I J tx L I' J' Q) R D N ex) 0 0) 0 0 80 [(1, .int x), (0, .ref 79)] [] (I', J', R, D, N, ex) := by
    intro x I' J' e h1 h2 h3
    refine w_aload_n dX7_readsHeap_80 rfl ?_
    refine z_callV dX7_readsHeap_81 lk_X7_204 [] rfl (m_goOn_b E l hR h1 h2) (g_recv.obj (ci := 7) rfl (by decide) (show 79 < N by omega)) rfl ⟨⟨by decide, by decide⟩, by decide, by decide⟩ (lb rfl) ?_
    refine w_aload_n dX7_readsHeap_84 rfl ?_
    refine w_iconst (v := 0) dX7_readsHeap_85 (by decide) ?_
    refine w_bipush (v := 15) dX7_readsHeap_86 (by decide) ?_
    refine y_callV dX7_readsHeap_88 lk_X7_218 [.int 0, .int 15] rfl (m_read_b E l hR h1 h2 _ _) (g_recv.obj (ci := 7) rfl (by decide) (show 79 < N by omega)) rfl ⟨⟨by decide, by decide⟩, by decide, by decide⟩ (lb rfl) ?_
    refine w_istore_n dX7_readsHeap_91 (by decide) rfl ?_
    exact w_lv [2, 1, 0] (b92 x _ I' J' e h1 h2 h3)
  have b44 : ∀ (I' : Nat → Nat → Int32) (J' : Nat → Nat → Int64) (e : Nat), I' 79 28 = nI e → e ≠ 0 ∧ e ≤ 5 → rsQ I J tx L I' J' Q → g_Wp E l mX7_readsHeap { frames := 5, cells := 0, slots := 0, locals := 105 } (g_Fin E (g_rk (fun I' J' => rsQ I J tx L I' J' Q) R D N ex) 0 0) 0 0 44 [(0, .ref 79)] [] (I', J', R, D, N, ex) := by
    intro I' J' e h1 h2 h3
    refine w_aload_n dX7_readsHeap_44 rfl ?_
    refine y_callV dX7_readsHeap_45 lk_X7_161 [] rfl (m_isGood E l hR h1 h2.2) (g_recv.obj (ci := 7) rfl (by decide) (show 79 < N by omega)) rfl ⟨⟨by decide, by decide⟩, by decide, by decide⟩ (lb rfl) ?_
    rw [decide_eq_false h2.1]
    refine w_if_eq (tgt := 62) dX7_readsHeap_48 (by decide) (fun c_48 => ?_) (fun c_48 => absurd (rfl) c_48)
    refine w_iconst (v := (-1)) dX7_readsHeap_62 (by decide) ?_
    refine w_istore_n dX7_readsHeap_63 (by decide) rfl ?_
    refine w_aload_n dX7_readsHeap_64 rfl ?_
    refine w_iload_n dX7_readsHeap_65 rfl ?_
    refine w_iconst (v := (-1)) dX7_readsHeap_66 (by decide) ?_
    refine w_icmp_eq (tgt := 74) dX7_readsHeap_67 (by decide) (fun c_67 => ?_) (fun c_67 => absurd (rfl) c_67)
    refine w_iconst (v := 0) dX7_readsHeap_74 (by decide) ?_
    refine w_iconst (v := 4) dX7_readsHeap_75 (by decide) ?_
    refine y_callV dX7_readsHeap_76 lk_X7_183 [.int _, .int 4] rfl (m_must_b E l hR h1 h2 _ _) (g_recv.obj (ci := 7) rfl (by decide) (show 79 < N by omega)) rfl ⟨⟨by decide, by decide⟩, by decide, by decide⟩ (lb rfl) ?_
    refine w_pop dX7_readsHeap_79 rfl ?_
    exact w_lv [1, 0] (b80 _ I' J' e h1 h2 h3)
  have b21 : ∀ (I' : Nat → Nat → Int32) (J' : Nat → Nat → Int64) (e : Nat), I' 79 28 = nI e → e ≠ 0 ∧ e ≤ 5 → rsQ I J tx L I' J' Q → g_Wp E l mX7_readsHeap { frames := 5, cells := 0, slots := 0, locals := 105 } (g_Fin E (g_rk (fun I' J' => rsQ I J tx L I' J' Q) R D N ex) 0 0) 0 0 21 [(0, .ref 79)] [] (I', J', R, D, N, ex) := by
    intro I' J' e h1 h2 h3
    refine w_aload_n dX7_readsHeap_21 rfl ?_
    refine z_callV dX7_readsHeap_22 lk_X7_204 [] rfl (m_goOn_b E l hR h1 h2) (g_recv.obj (ci := 7) rfl (by decide) (show 79 < N by omega)) rfl ⟨⟨by decide, by decide⟩, by decide, by decide⟩ (lb rfl) ?_
    refine w_aload_n dX7_readsHeap_25 rfl ?_
    refine w_aload_n dX7_readsHeap_26 rfl ?_
    refine x_geti (ci := 7) (k := 26) dX7_readsHeap_27 rfl (by decide) (by decide) (by omega) fl_X7_143 rfl ?_
    refine w_iconst (v := 1) dX7_readsHeap_30 (by decide) ?_
    refine w_icmp_ne (tgt := 38) dX7_readsHeap_31 (by decide) (fun c_31 => ?_) (fun c_31 => ?_)
    · refine w_iconst (v := 0) dX7_readsHeap_38 (by decide) ?_
      refine w_iconst (v := 1) dX7_readsHeap_39 (by decide) ?_
      refine y_callV dX7_readsHeap_40 lk_X7_183 [.int _, .int 1] rfl (m_must_b E l hR h1 h2 _ _) (g_recv.obj (ci := 7) rfl (by decide) (show 79 < N by omega)) rfl ⟨⟨by decide, by decide⟩, by decide, by decide⟩ (lb rfl) ?_
      refine w_pop dX7_readsHeap_43 rfl ?_
      exact w_lv [0] (b44 I' J' e h1 h2 h3)
    · refine w_iconst (v := 1) dX7_readsHeap_34 (by decide) ?_
      refine w_goto (tgt := 39) dX7_readsHeap_35 (by decide) ?_
      refine w_iconst (v := 1) dX7_readsHeap_39 (by decide) ?_
      refine y_callV dX7_readsHeap_40 lk_X7_183 [.int _, .int 1] rfl (m_must_b E l hR h1 h2 _ _) (g_recv.obj (ci := 7) rfl (by decide) (show 79 < N by omega)) rfl ⟨⟨by decide, by decide⟩, by decide, by decide⟩ (lb rfl) ?_
      refine w_pop dX7_readsHeap_43 rfl ?_
      exact w_lv [0] (b44 I' J' e h1 h2 h3)
  have s100 : ∀ (I' : Nat → Nat → Int32) (J' : Nat → Nat → Int64) (r v : Nat), frU I I' J J' → I' 79 28 = nI 0 → mtC I' J' tx L (tkE tx L (tkE tx L (tkE tx L a))) → P.hs.length < 4 → Q = .inr ((P.ru, P.hs ++ [(r, v)], P.2.2), tkE tx L (tkE tx L (tkE tx L a))) → g_Wp E l mX7_readsHeap { frames := 5, cells := 0, slots := 0, locals := 105 } (g_Fin E (g_rk (fun I' J' => rsQ I J tx L I' J' Q) R D N ex) 0 0) 0 0 100 [(2, .int (nI v)), (1, .int (nI r)), (0, .ref 79)] [] (I', J', R, D, N, ex) := by
    intro I' J' r v f1 g1 g2 hl4 hQ
    have p1 := hp.u f1
    have d0 : I' 80 0 = nI P.hs.length := p1.2.2.2.1.1
    generalize hln : P.hs.length = ln at *
    have fin : rsQ I J tx L (up2 (up2 (up2 I' 80 (1 + ln) (nI r)) 80 (5 + ln) (nI v)) 80 0 (nI (ln + 1))) J' Q := by
      rw [hQ]
      have u79 : ∀ j, (up2 (up2 (up2 I' 80 (1 + ln) (nI r)) 80 (5 + ln) (nI v)) 80 0 (nI (ln + 1))) 79 j = I' 79 j := fun j => by rw [up2_n _ _ (by simp), up2_n _ _ (by simp), up2_n _ _ (by simp)]
      have uo : ∀ o, o ≠ 80 → (up2 (up2 (up2 I' 80 (1 + ln) (nI r)) 80 (5 + ln) (nI v)) 80 0 (nI (ln + 1))) o = I' o := fun o ho => by funext j; rw [up2_n _ _ (by simp [ho]), up2_n _ _ (by simp [ho]), up2_n _ _ (by simp [ho])]
      refine ⟨((f1.w.up (by omega) _).up (by omega) _).up (by omega) _, by rw [u79]; exact g1, ⟨by rw [u79]; exact g2.1, by rw [u79]; exact g2.2.1, by rw [u79]; exact g2.2.2.1, g2.2.2.2.1, fun z => by rw [u79]; exact g2.2.2.2.2 z⟩, by rw [u79]; exact p1.1, fun k hk => ⟨(p1.2.1 k hk).1.fr (fun o a b => uo o (by omega)), (p1.2.1 k hk).2⟩, by rw [u79]; exact p1.2.2.1, ?_, by rw [u79]; exact p1.2.2.2.2.1, by rw [u79]; exact p1.2.2.2.2.2.1, by rw [u79]; exact p1.2.2.2.2.2.2⟩
      obtain ⟨q1, q2, q3, q4, q5, q6⟩ := p1.2.2.2.1
      refine ⟨by rw [up2_s]; show _ = nI (P.hs ++ [(r, v)]).length; rw [List.length_append, hln]; rfl, fun j hj => ?_, by rw [up2_n _ _ (by omega), up2_n _ _ (by omega), up2_n _ _ (by omega)]; exact q3, by rw [up2_n _ _ (by omega), up2_n _ _ (by omega), up2_n _ _ (by omega)]; exact q4, by rw [up2_n _ _ (by omega), up2_n _ _ (by omega), up2_n _ _ (by omega)]; exact q5, fun i hi w hw => absurd hi (Nat.not_lt_zero i)⟩
      have hj' : j < ln + 1 := by have hj2 : j < (P.hs ++ [(r, v)]).length := hj
                                  rw [List.length_append, hln] at hj2; exact hj2
      have ea := app_get P.st r v j
      have hlst : P.st.hs.length = ln := hln
      rw [hlst] at ea
      show up2 _ 80 0 _ 80 (0 + 1 + j) = nI ((P.st.app r v).rl j) ∧ up2 _ 80 0 _ 80 (0 + 5 + j) = nI ((P.st.app r v).sz j)
      rw [ea.1, ea.2]
      by_cases e : j = ln
      · subst e
        rw [if_pos rfl, if_pos rfl]
        exact ⟨by rw [up2_n _ _ (by omega), up2_n _ _ (by omega), show 0 + 1 + j = 1 + j by omega, up2_s], by rw [up2_n _ _ (by omega), show 0 + 5 + j = 5 + j by omega, up2_s]⟩
      · rw [if_neg e, if_neg e, up2_n _ _ (by omega), up2_n _ _ (by omega), up2_n _ _ (by omega), up2_n _ _ (by omega), up2_n _ _ (by omega), up2_n _ _ (by omega)]
        exact q2 j (by show j < P.hs.length; omega)
    refine w_aload_n dX7_readsHeap_100 rfl ?_
    refine x_getr (ci := 7) (k := 0) (a := 80) dX7_readsHeap_101 rfl (by decide) (by decide) (by omega) fl_X7_7 (Or.inr ⟨_, rfl⟩) hR.2.1 ?_
    refine w_iconst (v := 1) dX7_readsHeap_104 (by decide) ?_
    refine w_aload_n dX7_readsHeap_105 rfl ?_
    refine x_getr (ci := 7) (k := 0) (a := 80) dX7_readsHeap_106 rfl (by decide) (by decide) (by omega) fl_X7_7 (Or.inr ⟨_, rfl⟩) hR.2.1 ?_
    refine w_iconst (v := 0) dX7_readsHeap_109 (by decide) ?_
    refine x_iald (j := 0) dX7_readsHeap_110 rfl (by omega) rfl (show 0 < 172 by decide) ?_
    rw [d0]
    refine w_iadd dX7_readsHeap_111 ?_
    rw [show (1 : Int32) + nI ln = nI (1 + ln) from by rw [← nI_add]; rfl]
    refine w_iload_n dX7_readsHeap_112 rfl ?_
    refine x_iast (j := 1 + ln) dX7_readsHeap_113 rfl (by omega) rfl (show 1 + ln < 172 by omega) ?_
    refine w_aload_n dX7_readsHeap_114 rfl ?_
    refine x_getr (ci := 7) (k := 0) (a := 80) dX7_readsHeap_115 rfl (by decide) (by decide) (by omega) fl_X7_7 (Or.inr ⟨_, rfl⟩) hR.2.1 ?_
    refine w_iconst (v := 5) dX7_readsHeap_118 (by decide) ?_
    refine w_aload_n dX7_readsHeap_119 rfl ?_
    refine x_getr (ci := 7) (k := 0) (a := 80) dX7_readsHeap_120 rfl (by decide) (by decide) (by omega) fl_X7_7 (Or.inr ⟨_, rfl⟩) hR.2.1 ?_
    refine w_iconst (v := 0) dX7_readsHeap_123 (by decide) ?_
    refine x_iald (j := 0) dX7_readsHeap_124 rfl (by omega) rfl (show 0 < 172 by decide) ?_
    rw [up2_n _ _ (by omega), d0]
    refine w_iadd dX7_readsHeap_125 ?_
    rw [show (5 : Int32) + nI ln = nI (5 + ln) from by rw [← nI_add]; rfl]
    refine w_iload_n dX7_readsHeap_126 rfl ?_
    refine x_iast (j := 5 + ln) dX7_readsHeap_127 rfl (by omega) rfl (show 5 + ln < 172 by omega) ?_
    refine w_aload_n dX7_readsHeap_128 rfl ?_
    refine x_getr (ci := 7) (k := 0) (a := 80) dX7_readsHeap_129 rfl (by decide) (by decide) (by omega) fl_X7_7 (Or.inr ⟨_, rfl⟩) hR.2.1 ?_
    refine w_iconst (v := 0) dX7_readsHeap_132 (by decide) ?_
    refine w_dup2 dX7_readsHeap_133 rfl rfl ?_
    refine x_iald (j := 0) dX7_readsHeap_134 rfl (by omega) rfl (show 0 < 172 by decide) ?_
    rw [up2_n _ _ (by omega), up2_n _ _ (by omega), d0]
    refine w_iconst (v := 1) dX7_readsHeap_135 (by decide) ?_
    refine w_iadd dX7_readsHeap_136 ?_
    rw [nI_1]
    refine x_iast (j := 0) dX7_readsHeap_137 rfl (by omega) rfl (show 0 < 172 by decide) ?_
    refine w_vret dX7_readsHeap_138 rfl ⟨_, _, rfl, fin, rfl⟩ (by decide) (by decide)
  have s92 : ∀ (I' : Nat → Nat → Int32) (J' : Nat → Nat → Int64) (r v : Nat), frU I I' J J' → I' 79 28 = nI 0 → mtC I' J' tx L (tkE tx L (tkE tx L (tkE tx L a))) → P.hs.length < 4 → Q = .inr ((P.ru, P.hs ++ [(r, v)], P.2.2), tkE tx L (tkE tx L (tkE tx L a))) → g_Wp E l mX7_readsHeap { frames := 5, cells := 0, slots := 0, locals := 105 } (g_Fin E (g_rk (fun I' J' => rsQ I J tx L I' J' Q) R D N ex) 0 0) 0 0 92 [(2, .int (nI v)), (1, .int (nI r)), (0, .ref 79)] [] (I', J', R, D, N, ex) := by
    intro I' J' r v f1 g1 g2 hl4 hQ
    refine w_aload_n dX7_readsHeap_92 rfl ?_
    refine y_callV dX7_readsHeap_93 lk_X7_161 [] rfl (m_isGood E l hR g1 (by decide)) (g_recv.obj (ci := 7) rfl (by decide) (show 79 < N by omega)) rfl ⟨⟨by decide, by decide⟩, by decide, by decide⟩ (lb rfl) ?_
    refine w_if_ne (tgt := 100) dX7_readsHeap_96 (by decide) (fun c_96 => ?_) (fun c_96 => absurd c_96 ((by decide)))
    exact w_lv [2, 1, 0] (s100 I' J' r v f1 g1 g2 hl4 hQ)
  have d0 : I 80 0 = nI P.hs.length := hp.2.2.2.1.1
  by_cases c4 : 4 ≤ P.hs.length
  · rw [if_pos c4] at hq
    refine w_aload_n dX7_readsHeap_0 rfl ?_
    refine w_aload_n dX7_readsHeap_1 rfl ?_
    refine x_getr (ci := 7) (k := 0) (a := 80) dX7_readsHeap_2 rfl (by decide) (by decide) (by omega) fl_X7_7 (Or.inr ⟨_, rfl⟩) hR.2.1 ?_
    refine w_iconst (v := 0) dX7_readsHeap_5 (by decide) ?_
    refine x_iald (j := 0) dX7_readsHeap_6 rfl (by omega) rfl (show 0 < 172 by decide) ?_
    rw [d0]
    refine w_iconst (v := 4) dX7_readsHeap_7 (by decide) ?_
    refine w_icmp_ge (tgt := 15) dX7_readsHeap_8 (by decide) (fun c_8 => ?_) (fun c_8 => absurd ((nI_le (a := 4) (by omega) (by omega))) c_8)
    refine w_iconst (v := 0) dX7_readsHeap_15 (by decide) ?_
    refine w_iconst (v := 5) dX7_readsHeap_16 (by decide) ?_
    refine y_callV dX7_readsHeap_17 lk_X7_183 [.int 0, .int (nI 5)] rfl (m_must_f E l hR hg (k := 5) (by decide)) (g_recv.obj (ci := 7) rfl (by decide) (show 79 < N by omega)) rfl ⟨⟨by decide, by decide⟩, by decide, by decide⟩ (lb rfl) ?_
    refine w_pop dX7_readsHeap_20 rfl ?_
    exact w_lv [0] (b21 _ J 5 (by rw [up2_n _ _ (by simp), up2_s]) (by decide) (by rw [← hq]; exact ⟨((frU.refl I J).er _ _).w, by rw [up2_n _ _ (by simp), up2_s], by rw [up2_s]; exact hm.1, (by dsimp only; decide), (by dsimp only; decide)⟩))
  · rw [if_neg c4] at hq
    have s25 : ∀ (I2 : Nat → Nat → Int32) (J2 : Nat → Nat → Int64), frN I I2 J J2 → mtC I2 J2 tx L (tkE tx L a) → g_Wp E l mX7_readsHeap { frames := 5, cells := 0, slots := 0, locals := 105 } (g_Fin E (g_rk (fun I' J' => rsQ I J tx L I' J' Q) R D N ex) 0 0) 0 0 25 [(0, .ref 79)] [] (I2, J2, R, D, N, ex) := by
      intro I2 J2 k1 k2
      have g2 : I2 79 28 = nI 0 := by rw [k1.2.1 28 (by decide)]; exact hg
      have p2 := hp.u k1.u
      have hmk := mtk_le tx L (tkE tx L a)
      have r2 := hr.n k1
      by_cases c1 : isNm tx L (tkE tx L a) = false
      · rw [if_pos c1] at hq
        refine w_aload_n dX7_readsHeap_25 rfl ?_
        refine w_aload_n dX7_readsHeap_26 rfl ?_
        refine x_geti (ci := 7) (k := 26) dX7_readsHeap_27 rfl (by decide) (by decide) (by omega) fl_X7_143 rfl ?_
        rw [k2.2.2.1]
        refine w_iconst (v := 1) dX7_readsHeap_30 (by decide) ?_
        refine w_icmp_ne (tgt := 38) dX7_readsHeap_31 (by decide) (fun c_31 => ?_) (fun c_31 => absurd c_31 ((fun q => by rw [mtk_1.mp (n_eq (b := 1) q)] at c1; cases c1)))
        refine w_iconst (v := 0) dX7_readsHeap_38 (by decide) ?_
        refine w_iconst (v := 1) dX7_readsHeap_39 (by decide) ?_
        refine y_callV dX7_readsHeap_40 lk_X7_183 [.int 0, .int (nI 1)] rfl (m_must_f E l hR g2 (k := 1) (by decide)) (g_recv.obj (ci := 7) rfl (by decide) (show 79 < N by omega)) rfl ⟨⟨by decide, by decide⟩, by decide, by decide⟩ (lb rfl) ?_
        refine w_pop dX7_readsHeap_43 rfl ?_
        exact w_lv [0] (b44 _ J2 1 (by rw [up2_n _ _ (by simp), up2_s]) (by decide) (by rw [← hq]; exact ⟨(k1.u.er _ _).w, by rw [up2_n _ _ (by simp), up2_s], by rw [up2_s]; exact k2.1, (by dsimp only; decide), (by dsimp only; decide)⟩))
      · rw [if_neg c1] at hq
        have hu : isNm tx L (tkE tx L a) = true := by cases e : isNm tx L (tkE tx L a); exact absurd e c1; rfl
        have hm1 : mtk tx L (tkE tx L a) = 1 := mtk_1.mpr hu
        have hwd := k2.2.2.2.1 hm1
        have hfn := fn_eq hP (cdT_gd hu) (fun k hk => (p2.2.1 k hk).2)
        cases hf : fnR P (cdT tx L (tkE tx L a)) with
        | none =>
          rw [hf] at hq
          dsimp only at hq
          refine w_aload_n dX7_readsHeap_25 rfl ?_
          refine w_aload_n dX7_readsHeap_26 rfl ?_
          refine x_geti (ci := 7) (k := 26) dX7_readsHeap_27 rfl (by decide) (by decide) (by omega) fl_X7_143 rfl ?_
          rw [k2.2.2.1, hm1]
          refine w_iconst (v := 1) dX7_readsHeap_30 (by decide) ?_
          refine w_icmp_ne (tgt := 38) dX7_readsHeap_31 (by decide) (fun c_31 => absurd (rfl) c_31) (fun c_31 => ?_)
          refine w_iconst (v := 1) dX7_readsHeap_34 (by decide) ?_
          refine w_goto (tgt := 39) dX7_readsHeap_35 (by decide) ?_
          refine w_iconst (v := 1) dX7_readsHeap_39 (by decide) ?_
          refine y_callV dX7_readsHeap_40 lk_X7_183 [.int 1, .int 1] rfl (m_must_t E l hR g2 1) (g_recv.obj (ci := 7) rfl (by decide) (show 79 < N by omega)) rfl ⟨⟨by decide, by decide⟩, by decide, by decide⟩ (lb rfl) ?_
          refine w_pop dX7_readsHeap_43 rfl ?_
          refine w_aload_n dX7_readsHeap_44 rfl ?_
          refine y_callV dX7_readsHeap_45 lk_X7_161 [] rfl (m_isGood E l hR g2 (by decide)) (g_recv.obj (ci := 7) rfl (by decide) (show 79 < N by omega)) rfl ⟨⟨by decide, by decide⟩, by decide, by decide⟩ (lb rfl) ?_
          refine w_if_eq (tgt := 62) dX7_readsHeap_48 (by decide) (fun c_48 => absurd c_48 ((by decide))) (fun c_48 => ?_)
          refine w_aload_n dX7_readsHeap_51 rfl ?_
          refine w_aload_n dX7_readsHeap_52 rfl ?_
          refine x_getj (ci := 7) (k := 33) dX7_readsHeap_53 rfl (by decide) (by decide) (by omega) fl_X7_122 rfl ?_
          rw [hwd]
          refine y_callV dX7_readsHeap_56 lk_X7_207 [.long (lN (mw (cdT tx L (tkE tx L a))))] rfl (m_find E l hR p2.1 h6 _) (g_recv.obj (ci := 7) rfl (by decide) (show 79 < N by omega)) rfl ⟨⟨by decide, by decide⟩, by decide, by decide⟩ (lb rfl) ?_
          rw [hfn, hf]
          refine w_goto (tgt := 63) dX7_readsHeap_59 (by decide) ?_
          refine w_istore_n dX7_readsHeap_63 (by decide) rfl ?_
          refine w_aload_n dX7_readsHeap_64 rfl ?_
          refine w_iload_n dX7_readsHeap_65 rfl ?_
          refine w_iconst (v := (-1)) dX7_readsHeap_66 (by decide) ?_
          refine w_icmp_eq (tgt := 74) dX7_readsHeap_67 (by decide) (fun c_67 => ?_) (fun c_67 => absurd ((show o2i none = -1 from rfl)) c_67)
          refine w_iconst (v := 0) dX7_readsHeap_74 (by decide) ?_
          refine w_iconst (v := 4) dX7_readsHeap_75 (by decide) ?_
          refine y_callV dX7_readsHeap_76 lk_X7_183 [.int 0, .int (nI 4)] rfl (m_must_f E l hR g2 (k := 4) (by decide)) (g_recv.obj (ci := 7) rfl (by decide) (show 79 < N by omega)) rfl ⟨⟨by decide, by decide⟩, by decide, by decide⟩ (lb rfl) ?_
          refine w_pop dX7_readsHeap_79 rfl ?_
          exact w_lv [1, 0] (b80 _ _ J2 4 (by rw [up2_n _ _ (by simp), up2_s]) (by decide) (by rw [← hq]; exact ⟨(k1.u.er _ _).w, by rw [up2_n _ _ (by simp), up2_s], by rw [up2_s]; exact k2.1, (by dsimp only; decide), (by dsimp only; decide)⟩))
        | some rr =>
          rw [hf] at hq
          dsimp only at hq
          have hrr := fnR_lt hf
          have hrd : rdN tx L (tkE tx L (tkE tx L a)) 15 = (if isNu tx L (tkE tx L (tkE tx L a)) = false then .inl (tkS tx L (tkE tx L (tkE tx L a)), 1) else if 15 < nmT tx L (tkE tx L (tkE tx L a)) then .inl (tkS tx L (tkE tx L (tkE tx L a)), 3) else .inr (nmT tx L (tkE tx L (tkE tx L a)))) := rfl
          generalize hMe : rdN tx L (tkE tx L (tkE tx L a)) 15 = M at hrd
          have hQM : Q = heM P rr (tkE tx L (tkE tx L (tkE tx L a))) M := by
            rw [hrd, ← hq]
            unfold heM
            split
            · rfl
            · split <;> rfl
          refine w_aload_n dX7_readsHeap_25 rfl ?_
          refine w_aload_n dX7_readsHeap_26 rfl ?_
          refine x_geti (ci := 7) (k := 26) dX7_readsHeap_27 rfl (by decide) (by decide) (by omega) fl_X7_143 rfl ?_
          rw [k2.2.2.1, hm1]
          refine w_iconst (v := 1) dX7_readsHeap_30 (by decide) ?_
          refine w_icmp_ne (tgt := 38) dX7_readsHeap_31 (by decide) (fun c_31 => absurd (rfl) c_31) (fun c_31 => ?_)
          refine w_iconst (v := 1) dX7_readsHeap_34 (by decide) ?_
          refine w_goto (tgt := 39) dX7_readsHeap_35 (by decide) ?_
          refine w_iconst (v := 1) dX7_readsHeap_39 (by decide) ?_
          refine y_callV dX7_readsHeap_40 lk_X7_183 [.int 1, .int 1] rfl (m_must_t E l hR g2 1) (g_recv.obj (ci := 7) rfl (by decide) (show 79 < N by omega)) rfl ⟨⟨by decide, by decide⟩, by decide, by decide⟩ (lb rfl) ?_
          refine w_pop dX7_readsHeap_43 rfl ?_
          refine w_aload_n dX7_readsHeap_44 rfl ?_
          refine y_callV dX7_readsHeap_45 lk_X7_161 [] rfl (m_isGood E l hR g2 (by decide)) (g_recv.obj (ci := 7) rfl (by decide) (show 79 < N by omega)) rfl ⟨⟨by decide, by decide⟩, by decide, by decide⟩ (lb rfl) ?_
          refine w_if_eq (tgt := 62) dX7_readsHeap_48 (by decide) (fun c_48 => absurd c_48 ((by decide))) (fun c_48 => ?_)
          refine w_aload_n dX7_readsHeap_51 rfl ?_
          refine w_aload_n dX7_readsHeap_52 rfl ?_
          refine x_getj (ci := 7) (k := 33) dX7_readsHeap_53 rfl (by decide) (by decide) (by omega) fl_X7_122 rfl ?_
          rw [hwd]
          refine y_callV dX7_readsHeap_56 lk_X7_207 [.long (lN (mw (cdT tx L (tkE tx L a))))] rfl (m_find E l hR p2.1 h6 _) (g_recv.obj (ci := 7) rfl (by decide) (show 79 < N by omega)) rfl ⟨⟨by decide, by decide⟩, by decide, by decide⟩ (lb rfl) ?_
          rw [hfn, hf]
          refine w_goto (tgt := 63) dX7_readsHeap_59 (by decide) ?_
          refine w_istore_n dX7_readsHeap_63 (by decide) rfl ?_
          refine w_aload_n dX7_readsHeap_64 rfl ?_
          refine w_iload_n dX7_readsHeap_65 rfl ?_
          refine w_iconst (v := (-1)) dX7_readsHeap_66 (by decide) ?_
          refine w_icmp_eq (tgt := 74) dX7_readsHeap_67 (by decide) (fun c_67 => absurd c_67 ((show ¬ nI rr = -1 from fun q => by have := congrArg Int32.toInt q; rw [nI_toInt (show rr < 2 ^ 31 by omega)] at this; have e : (-1 : Int32).toInt = -1 := rfl; omega))) (fun c_67 => ?_)
          refine w_iconst (v := 1) dX7_readsHeap_70 (by decide) ?_
          refine w_goto (tgt := 75) dX7_readsHeap_71 (by decide) ?_
          refine w_iconst (v := 4) dX7_readsHeap_75 (by decide) ?_
          refine y_callV dX7_readsHeap_76 lk_X7_183 [.int 1, .int 4] rfl (m_must_t E l hR g2 4) (g_recv.obj (ci := 7) rfl (by decide) (show 79 < N by omega)) rfl ⟨⟨by decide, by decide⟩, by decide, by decide⟩ (lb rfl) ?_
          refine w_pop dX7_readsHeap_79 rfl ?_
          refine w_aload_n dX7_readsHeap_80 rfl ?_
          refine k_callV dX7_readsHeap_81 lk_X7_204 [] rfl (m_goOn E l hR g2 r2 hb2.2.2.2.1 k2.2.1) (g_recv.obj (ci := 7) rfl (by decide) (show 79 < N by omega)) rfl ⟨⟨by decide, by decide⟩, by decide, by decide⟩ (lb rfl) (fun I3 J3 h_81 => ?_)
          obtain ⟨k3, k4⟩ := h_81
          have g3 : I3 79 28 = nI 0 := (by rw [k3.2.1 28 (by decide)]; exact g2)
          refine w_aload_n dX7_readsHeap_84 rfl ?_
          refine w_iconst (v := 0) dX7_readsHeap_85 (by decide) ?_
          refine w_bipush (v := 15) dX7_readsHeap_86 (by decide) ?_
          refine j_callV dX7_readsHeap_88 lk_X7_218 [.int (nI 0), .int (nI 15)] rfl (m_read E l hR g3 (r2.n k3) k4 hb2.2.2.2.1 (hi := 15) (by decide)) (g_recv.obj (ci := 7) rfl (by decide) (show 79 < N by omega)) rfl ⟨⟨by decide, by decide⟩, by decide, by decide⟩ (lb rfl) (fun x_88 I4 J4 h_88 => ?_)
          rw [hMe] at h_88
          obtain ⟨a1, a2⟩ := h_88
          have f4 := (k1.u.trans k3.u).trans a1
          refine w_istore_n dX7_readsHeap_91 (by decide) rfl ?_
          rcases M with q | v
          · exact w_lv [2, 1, 0] (b92 _ _ I4 J4 q.2 a2.2.1 ⟨a2.2.2.2.1, a2.2.2.2.2⟩ (by rw [hQM]; exact ⟨f4.w, a2.2⟩))
          · rw [a2.1]
            exact w_lv [2, 1, 0] (s92 I4 J4 rr v f4 a2.2.1 a2.2.2 (by omega) hQM)
    refine w_aload_n dX7_readsHeap_0 rfl ?_
    refine w_aload_n dX7_readsHeap_1 rfl ?_
    refine x_getr (ci := 7) (k := 0) (a := 80) dX7_readsHeap_2 rfl (by decide) (by decide) (by omega) fl_X7_7 (Or.inr ⟨_, rfl⟩) hR.2.1 ?_
    refine w_iconst (v := 0) dX7_readsHeap_5 (by decide) ?_
    refine x_iald (j := 0) dX7_readsHeap_6 rfl (by omega) rfl (show 0 < 172 by decide) ?_
    rw [d0]
    refine w_iconst (v := 4) dX7_readsHeap_7 (by decide) ?_
    refine w_icmp_ge (tgt := 15) dX7_readsHeap_8 (by decide) (fun c_8 => absurd c_8 ((nI_ge (a := P.hs.length) (b := 4) (by omega) (by omega)))) (fun c_8 => ?_)
    refine w_iconst (v := 1) dX7_readsHeap_11 (by decide) ?_
    refine w_goto (tgt := 16) dX7_readsHeap_12 (by decide) ?_
    refine w_iconst (v := 5) dX7_readsHeap_16 (by decide) ?_
    refine y_callV dX7_readsHeap_17 lk_X7_183 [.int 1, .int 5] rfl (m_must_t E l hR hg 5) (g_recv.obj (ci := 7) rfl (by decide) (show 79 < N by omega)) rfl ⟨⟨by decide, by decide⟩, by decide, by decide⟩ (lb rfl) ?_
    refine w_pop dX7_readsHeap_20 rfl ?_
    refine w_aload_n dX7_readsHeap_21 rfl ?_
    refine k_callV dX7_readsHeap_22 lk_X7_204 [] rfl (m_goOn E l hR hg hr hb.2.2.2.1 hm.2.1) (g_recv.obj (ci := 7) rfl (by decide) (show 79 < N by omega)) rfl ⟨⟨by decide, by decide⟩, by decide, by decide⟩ (lb rfl) (fun I2 J2 h_22 => ?_)
    obtain ⟨k1, k2⟩ := h_22
    exact w_lv [0] (s25 I2 J2 k1 k2)
end MC2
