/-! HeapGamesModel: readsStatement -/
def paO (P : PS) (e : Nat) (M : (Nat × Nat) ⊕ Nat) : RdO := match M with
  | .inl q => .inl q
  | .inr v => .inr ((P.ru, P.hs, v, true, P.mi, P.sh), e)
theorem paO_eq {tx : Nat → Nat} {L a : Nat} {P : PS} (h : P.hp = false) : rdPa tx L a P = paO P (tkE tx L (tkE tx L a)) (rdN tx L (tkE tx L a) 3) := by
  unfold rdPa rdN
  rw [if_neg (by rw [h]; decide)]
  split
  · rfl
  · split <;> rfl
section ME2
variable (E : GE) (l : Launch)
variable {I : Nat → Nat → Int32} {J : Nat → Nat → Int64} {R : Nat → Nat → Option Nat} {D : Nat → Nat → UInt64} {N : Nat} {ex : Bool} {tx : Nat → Nat} {L a : Nat} {P : PS}
set_option maxRecDepth 100000 in
theorem m_readsStatement (hR : lkM R N) (hg : I 79 28 = nI 0) (hr : mtx I tx L) (hm : mtC I J tx L a) (ha : a ≤ L) (hp : pmC I J P) (hP : psOK P) : g_Ct E l mX7_readsStatement 7 149 0 0 [.ref 79] (I, J, R, D, N, ex) (g_rk (fun I' J' => rsQ I J tx L I' J' (stO tx L (rdStM tx L a P))) R D N ex) := by
  refine g_Ct.of (by decide +kernel) (lb rfl) ?_
  have hN := hR.1
  have hL := hr.2.1
  have hb := tk_b (tx := tx) ha
  have hb2 := tk_b (tx := tx) hb.2.2.2.1
  have hok := fun q => rdStM_ok (tx := tx) (L := L) (a := a) (P := P) (q := q) ha hP
  generalize hQ : rdStM tx L a P = Q at *
  have b147 : ∀ (I' : Nat → Nat → Int32) (J' : Nat → Nat → Int64), rsQ I J tx L I' J' Q → g_Wp E l mX7_readsStatement { frames := 7, cells := 0, slots := 0, locals := 149 } (g_Fin E (g_rk (fun I' J' => rsQ I J tx L I' J' (stO tx L Q)) R D N ex) 0 0) 0 0 147 [(0, .ref 79)] [] (I', J', R, D, N, ex) := by
    intro I' J' ⟨f1, h⟩
    rcases Q with q | q
    · have e1 : stO tx L (.inl q) = .inl q := rfl
      rw [e1]
      refine w_aload_n dX7_readsStatement_147 rfl ?_
      refine w_aload_n dX7_readsStatement_148 rfl ?_
      refine x_geti (ci := 7) (k := 26) dX7_readsStatement_149 rfl (by decide) (by decide) (by omega) fl_X7_143 rfl ?_
      refine w_iconst (v := 3) dX7_readsStatement_152 (by decide) ?_
      refine w_icmp_ne (tgt := 160) dX7_readsStatement_153 (by decide) (fun c_153 => ?_) (fun c_153 => ?_)
      · refine w_iconst (v := 0) dX7_readsStatement_160 (by decide) ?_
        refine w_iconst (v := 1) dX7_readsStatement_161 (by decide) ?_
        refine y_callV dX7_readsStatement_162 lk_X7_183 [.int _, .int 1] rfl (m_must_b E l hR h.1 ⟨h.2.2.1, h.2.2.2⟩ _ _) (g_recv.obj (ci := 7) rfl (by decide) (show 79 < N by omega)) rfl ⟨⟨by decide, by decide⟩, by decide, by decide⟩ (lb rfl) ?_
        refine w_pop dX7_readsStatement_165 rfl ?_
        refine w_aload_n dX7_readsStatement_166 rfl ?_
        refine z_callV dX7_readsStatement_167 lk_X7_204 [] rfl (m_goOn_b E l hR h.1 ⟨h.2.2.1, h.2.2.2⟩) (g_recv.obj (ci := 7) rfl (by decide) (show 79 < N by omega)) rfl ⟨⟨by decide, by decide⟩, by decide, by decide⟩ (lb rfl) ?_
        refine w_vret dX7_readsStatement_170 rfl ⟨_, _, rfl, ⟨f1, h⟩, rfl⟩ (by decide) (by decide)
      · refine w_iconst (v := 1) dX7_readsStatement_156 (by decide) ?_
        refine w_goto (tgt := 161) dX7_readsStatement_157 (by decide) ?_
        refine w_iconst (v := 1) dX7_readsStatement_161 (by decide) ?_
        refine y_callV dX7_readsStatement_162 lk_X7_183 [.int _, .int 1] rfl (m_must_b E l hR h.1 ⟨h.2.2.1, h.2.2.2⟩ _ _) (g_recv.obj (ci := 7) rfl (by decide) (show 79 < N by omega)) rfl ⟨⟨by decide, by decide⟩, by decide, by decide⟩ (lb rfl) ?_
        refine w_pop dX7_readsStatement_165 rfl ?_
        refine w_aload_n dX7_readsStatement_166 rfl ?_
        refine z_callV dX7_readsStatement_167 lk_X7_204 [] rfl (m_goOn_b E l hR h.1 ⟨h.2.2.1, h.2.2.2⟩) (g_recv.obj (ci := 7) rfl (by decide) (show 79 < N by omega)) rfl ⟨⟨by decide, by decide⟩, by decide, by decide⟩ (lb rfl) ?_
        refine w_vret dX7_readsStatement_170 rfl ⟨_, _, rfl, ⟨f1, h⟩, rfl⟩ (by decide) (by decide)
    · obtain ⟨g1, g2, g3⟩ := h
      obtain ⟨o1, o2, o3⟩ := hok q rfl
      have hb3 := tk_b (tx := tx) o3
      have hmk := mtk_le tx L q.2
      by_cases h3 : tkK tx L q.2 ≠ 3
      · have e1 : stO tx L (.inr q) = .inl (tkS tx L q.2, 1) := if_pos h3
        rw [e1]
        have h28 : (up2 (up2 I' 79 28 (nI 1)) 79 29 (I' 79 24)) 79 28 = nI 1 := by rw [up2_n _ _ (by simp), up2_s]
        refine w_aload_n dX7_readsStatement_147 rfl ?_
        refine w_aload_n dX7_readsStatement_148 rfl ?_
        refine x_geti (ci := 7) (k := 26) dX7_readsStatement_149 rfl (by decide) (by decide) (by omega) fl_X7_143 rfl ?_
        rw [g2.2.2.1]
        refine w_iconst (v := 3) dX7_readsStatement_152 (by decide) ?_
        refine w_icmp_ne (tgt := 160) dX7_readsStatement_153 (by decide) (fun c_153 => ?_) (fun c_153 => absurd c_153 ((fun z => h3 (mtk_3.mp (n_eq (b := 3) z)))))
        refine w_iconst (v := 0) dX7_readsStatement_160 (by decide) ?_
        refine w_iconst (v := 1) dX7_readsStatement_161 (by decide) ?_
        refine y_callV dX7_readsStatement_162 lk_X7_183 [.int 0, .int (nI 1)] rfl (m_must_f E l hR g1 (k := 1) (by decide)) (g_recv.obj (ci := 7) rfl (by decide) (show 79 < N by omega)) rfl ⟨⟨by decide, by decide⟩, by decide, by decide⟩ (lb rfl) ?_
        refine w_pop dX7_readsStatement_165 rfl ?_
        refine w_aload_n dX7_readsStatement_166 rfl ?_
        refine z_callV dX7_readsStatement_167 lk_X7_204 [] rfl (m_goOn_b E l hR h28 (by decide)) (g_recv.obj (ci := 7) rfl (by decide) (show 79 < N by omega)) rfl ⟨⟨by decide, by decide⟩, by decide, by decide⟩ (lb rfl) ?_
        refine w_vret dX7_readsStatement_170 rfl ⟨_, _, rfl, ⟨f1.er _ _, h28, by rw [up2_s]; exact g2.1, (by dsimp only; decide), (by dsimp only; decide)⟩, rfl⟩ (by decide) (by decide)
      · have e1 : stO tx L (.inr q) = .inr (q.1, tkE tx L q.2) := if_neg h3
        rw [e1]
        have h3' : mtk tx L q.2 = 3 := mtk_3.mpr (Classical.byContradiction h3)
        refine w_aload_n dX7_readsStatement_147 rfl ?_
        refine w_aload_n dX7_readsStatement_148 rfl ?_
        refine x_geti (ci := 7) (k := 26) dX7_readsStatement_149 rfl (by decide) (by decide) (by omega) fl_X7_143 rfl ?_
        rw [g2.2.2.1, h3']
        refine w_iconst (v := 3) dX7_readsStatement_152 (by decide) ?_
        refine w_icmp_ne (tgt := 160) dX7_readsStatement_153 (by decide) (fun c_153 => absurd (rfl) c_153) (fun c_153 => ?_)
        refine w_iconst (v := 1) dX7_readsStatement_156 (by decide) ?_
        refine w_goto (tgt := 161) dX7_readsStatement_157 (by decide) ?_
        refine w_iconst (v := 1) dX7_readsStatement_161 (by decide) ?_
        refine y_callV dX7_readsStatement_162 lk_X7_183 [.int 1, .int 1] rfl (m_must_t E l hR g1 1) (g_recv.obj (ci := 7) rfl (by decide) (show 79 < N by omega)) rfl ⟨⟨by decide, by decide⟩, by decide, by decide⟩ (lb rfl) ?_
        refine w_pop dX7_readsStatement_165 rfl ?_
        refine w_aload_n dX7_readsStatement_166 rfl ?_
        refine k_callV dX7_readsStatement_167 lk_X7_204 [] rfl (m_goOn E l hR g1 (hr.w f1) hb3.2.2.2.1 g2.2.1) (g_recv.obj (ci := 7) rfl (by decide) (show 79 < N by omega)) rfl ⟨⟨by decide, by decide⟩, by decide, by decide⟩ (lb rfl) (fun I2 J2 h_167 => ?_)
        obtain ⟨k1, k2⟩ := h_167
        refine w_vret dX7_readsStatement_170 rfl ⟨_, _, rfl, ⟨f1.trans k1.u.w, by rw [k1.2.1 28 (by decide)]; exact g1, k2, g3.u k1.u⟩, rfl⟩ (by decide) (by decide)
  have e9 : slM I 80 0 P.st := hp.2.2.2.1
  have fz : ∀ (I' : Nat → Nat → Int32) (J' : Nat → Nat → Int64) (k : Nat) (v : Int32), frW I I' J J' → 24 ≤ k ∧ k ≤ 32 → frW I (up2 I' 79 k v) J J' := fun I' J' k v h hk => h.up (Or.inl ⟨rfl, Or.inr (Or.inl hk)⟩) v
  have fd : ∀ (I' : Nat → Nat → Int32) (J' : Nat → Nat → Int64) (k : Nat) (v : Int32), frW I I' J J' → frW I (up2 I' 80 k v) J J' := fun I' J' k v h => h.up (Or.inr (Or.inl rfl)) v
  have pas : isW tx L a 0 = false → isW tx L a 1 = false → isW tx L a 2 = false → isW tx L a 3 = true → g_Wp E l mX7_readsStatement { frames := 7, cells := 0, slots := 0, locals := 149 } (g_Fin E (g_rk (fun I' J' => rsQ I J tx L I' J' (stO tx L Q)) R D N ex) 0 0) 0 0 57 [(0, .ref 79)] [] (I, J, R, D, N, ex) := by
    intro w0 w1 w2 w3
    have hQ2 : Q = rdPa tx L a P := by rw [← hQ]; unfold rdStM; rw [w0, if_neg (by decide), w1, if_neg (by decide), w2, if_neg (by decide), if_pos w3]
    cases hh : P.hp with
    | true =>
      have hQ3 : Q = .inl (tkS tx L a, 2) := by rw [hQ2]; unfold rdPa; rw [if_pos hh]
      have h28 : (up2 (up2 (up2 I 79 28 (nI 2)) 79 29 (I 79 24)) 79 31 1) 79 28 = nI 2 := by rw [up2_n _ _ (by simp), up2_n _ _ (by simp), up2_s]
      have fin : rsQ I J tx L (up2 (up2 (up2 (up2 I 79 28 (nI 2)) 79 29 (I 79 24)) 79 31 1) 80 9 0) J Q := by
        rw [hQ3]
        exact ⟨fd _ _ _ _ (fz _ _ _ _ ((frW.refl I J).er _ _) (by decide)), by rw [up2_n _ _ (by simp)]; exact h28, by rw [up2_n _ _ (by simp), up2_n _ _ (by simp), up2_s]; exact hm.1, (by dsimp only; decide), (by dsimp only; decide)⟩
      refine w_aload_n dX7_readsStatement_57 rfl ?_
      refine w_aload_n dX7_readsStatement_58 rfl ?_
      refine x_getz (ci := 7) (k := 31) dX7_readsStatement_59 rfl (by decide) (by decide) (by omega) fl_X7_244 rfl ?_
      rw [hp.2.2.2.2.2.1, hh]
      refine w_if_ne (tgt := 69) dX7_readsStatement_62 (by decide) (fun c_62 => ?_) (fun c_62 => absurd c_62 ((by decide)))
      refine w_iconst (v := 0) dX7_readsStatement_69 (by decide) ?_
      refine w_iconst (v := 2) dX7_readsStatement_70 (by decide) ?_
      refine y_callV dX7_readsStatement_71 lk_X7_183 [.int 0, .int (nI 2)] rfl (m_must_f E l hR hg (k := 2) (by decide)) (g_recv.obj (ci := 7) rfl (by decide) (show 79 < N by omega)) rfl ⟨⟨by decide, by decide⟩, by decide, by decide⟩ (lb rfl) ?_
      refine w_pop dX7_readsStatement_74 rfl ?_
      refine w_aload_n dX7_readsStatement_75 rfl ?_
      refine w_iconst (v := 1) dX7_readsStatement_76 (by decide) ?_
      refine x_putz (ci := 7) (k := 31) dX7_readsStatement_77 rfl (by decide) (by decide) (by omega) fl_X7_244 rfl rfl (by decide) ?_
      refine w_aload_n dX7_readsStatement_80 rfl ?_
      refine z_callV dX7_readsStatement_81 lk_X7_204 [] rfl (m_goOn_b E l hR h28 (by decide)) (g_recv.obj (ci := 7) rfl (by decide) (show 79 < N by omega)) rfl ⟨⟨by decide, by decide⟩, by decide, by decide⟩ (lb rfl) ?_
      refine w_aload_n dX7_readsStatement_84 rfl ?_
      refine x_getr (ci := 7) (k := 0) (a := 80) dX7_readsStatement_85 rfl (by decide) (by decide) (by omega) fl_X7_7 (Or.inr ⟨_, rfl⟩) hR.2.1 ?_
      refine w_bipush (v := 9) dX7_readsStatement_88 (by decide) ?_
      refine w_aload_n dX7_readsStatement_90 rfl ?_
      refine w_iconst (v := 0) dX7_readsStatement_91 (by decide) ?_
      refine w_iconst (v := 3) dX7_readsStatement_92 (by decide) ?_
      refine y_callV dX7_readsStatement_93 lk_X7_218 [.int 0, .int 3] rfl (m_read_b E l hR h28 (by decide) _ _) (g_recv.obj (ci := 7) rfl (by decide) (show 79 < N by omega)) rfl ⟨⟨by decide, by decide⟩, by decide, by decide⟩ (lb rfl) ?_
      refine x_iast (j := 9) dX7_readsStatement_96 rfl (by omega) rfl (show 9 < 172 by decide) ?_
      refine w_goto (tgt := 147) dX7_readsStatement_97 (by decide) ?_
      exact w_lv [0] (b147 _ J fin)
    | false =>
      have hQ3 := hQ2.trans (paO_eq hh)
      generalize hMe : rdN tx L (tkE tx L a) 3 = M at hQ3
      have h28 : (up2 I 79 31 1) 79 28 = nI 0 := by rw [up2_n _ _ (by simp)]; exact hg
      have hr1 : mtx (up2 I 79 31 1) tx L := hr.w (fz _ _ _ _ (frW.refl I J) (by decide))
      have h25 : (up2 I 79 31 1) 79 25 = nI (tkE tx L a) := by rw [up2_n _ _ (by simp)]; exact hm.2.1
      refine w_aload_n dX7_readsStatement_57 rfl ?_
      refine w_aload_n dX7_readsStatement_58 rfl ?_
      refine x_getz (ci := 7) (k := 31) dX7_readsStatement_59 rfl (by decide) (by decide) (by omega) fl_X7_244 rfl ?_
      rw [hp.2.2.2.2.2.1, hh]
      refine w_if_ne (tgt := 69) dX7_readsStatement_62 (by decide) (fun c_62 => absurd (rfl) c_62) (fun c_62 => ?_)
      refine w_iconst (v := 1) dX7_readsStatement_65 (by decide) ?_
      refine w_goto (tgt := 70) dX7_readsStatement_66 (by decide) ?_
      refine w_iconst (v := 2) dX7_readsStatement_70 (by decide) ?_
      refine y_callV dX7_readsStatement_71 lk_X7_183 [.int 1, .int 2] rfl (m_must_t E l hR hg 2) (g_recv.obj (ci := 7) rfl (by decide) (show 79 < N by omega)) rfl ⟨⟨by decide, by decide⟩, by decide, by decide⟩ (lb rfl) ?_
      refine w_pop dX7_readsStatement_74 rfl ?_
      refine w_aload_n dX7_readsStatement_75 rfl ?_
      refine w_iconst (v := 1) dX7_readsStatement_76 (by decide) ?_
      refine x_putz (ci := 7) (k := 31) dX7_readsStatement_77 rfl (by decide) (by decide) (by omega) fl_X7_244 rfl rfl (by decide) ?_
      refine w_aload_n dX7_readsStatement_80 rfl ?_
      refine k_callV dX7_readsStatement_81 lk_X7_204 [] rfl (m_goOn E l hR h28 hr1 hb.2.2.2.1 h25) (g_recv.obj (ci := 7) rfl (by decide) (show 79 < N by omega)) rfl ⟨⟨by decide, by decide⟩, by decide, by decide⟩ (lb rfl) (fun I2 J2 h_81 => ?_)
      obtain ⟨k1, k2⟩ := h_81
      have g2 : I2 79 28 = nI 0 := (by rw [k1.2.1 28 (by decide)]; exact h28)
      refine w_aload_n dX7_readsStatement_84 rfl ?_
      refine x_getr (ci := 7) (k := 0) (a := 80) dX7_readsStatement_85 rfl (by decide) (by decide) (by omega) fl_X7_7 (Or.inr ⟨_, rfl⟩) hR.2.1 ?_
      refine w_bipush (v := 9) dX7_readsStatement_88 (by decide) ?_
      refine w_aload_n dX7_readsStatement_90 rfl ?_
      refine w_iconst (v := 0) dX7_readsStatement_91 (by decide) ?_
      refine w_iconst (v := 3) dX7_readsStatement_92 (by decide) ?_
      refine j_callV dX7_readsStatement_93 lk_X7_218 [.int (nI 0), .int (nI 3)] rfl (m_read E l hR g2 (hr1.n k1) k2 hb.2.2.2.1 (hi := 3) (by decide)) (g_recv.obj (ci := 7) rfl (by decide) (show 79 < N by omega)) rfl ⟨⟨by decide, by decide⟩, by decide, by decide⟩ (lb rfl) (fun x_93 I3 J3 h_93 => ?_)
      rw [hMe] at h_93
      obtain ⟨a1, a2⟩ := h_93
      have k3 := k1.u.trans a1
      have f3 := (fz _ _ 31 1 (frW.refl I J) (by decide)).trans k3.w
      refine x_iast (j := 9) dX7_readsStatement_96 rfl (by omega) rfl (show 9 < 172 by decide) ?_
      refine w_goto (tgt := 147) dX7_readsStatement_97 (by decide) ?_
      rcases M with q | v
      · refine w_lv [0] (b147 _ J3 ?_)
        rw [hQ3, a2.1]
        exact ⟨fd _ _ _ _ f3, by rw [up2_n _ _ (by simp)]; exact a2.2.1, by rw [up2_n _ _ (by simp)]; exact a2.2.2.1, a2.2.2.2.1, a2.2.2.2.2⟩
      · refine w_lv [0] (b147 _ J3 ?_)
        rw [hQ3, a2.1]
        have sl : slM (up2 I3 80 9 (nI v)) 80 0 (P.hs, v, P.mi, []) := (e9.fr (by rw [k3.1 80 (by decide) (by decide)]; funext j; exact up2_n _ _ (by simp))).pas hP.2.2.1.1 v
        have u79 : ∀ j, up2 I3 80 9 (nI v) 79 j = I3 79 j := fun j => up2_n _ _ (by simp)
        have k79 : ∀ j, (j < 24 ∨ 29 < j) → j ≠ 35 → j ≠ 31 → I3 79 j = I 79 j := fun j x y z => (k3.2.1 j x y).trans (up2_n _ _ (by simp [z]))
        exact ⟨fd _ _ _ _ f3, by rw [u79]; exact a2.2.1, ⟨by rw [u79]; exact a2.2.2.1, by rw [u79]; exact a2.2.2.2.1, by rw [u79]; exact a2.2.2.2.2.1, a2.2.2.2.2.2.1, fun z => by rw [u79]; exact a2.2.2.2.2.2.2 z⟩, by rw [u79, k79 15 (by decide) (by decide) (by decide)]; exact hp.1, fun k hk => ⟨(hp.2.1 k hk).1.fr (fun o x y => by rw [← show I3 o = I o from by rw [k3.1 o (by omega) (by omega)]; funext j; exact up2_n _ _ (by omega)]; funext j; exact up2_n _ _ (by omega)), by rw [k3.2.2 92 k (by simp)]; exact (hp.2.1 k hk).2⟩, by rw [u79, k79 16 (by decide) (by decide) (by decide)]; exact hp.2.2.1, sl, by rw [u79, k79 30 (by decide) (by decide) (by decide)]; exact hp.2.2.2.2.1, by rw [u79, k3.2.1 31 (by decide) (by decide), up2_s]; rfl, by rw [u79, k79 32 (by decide) (by decide) (by decide)]; exact hp.2.2.2.2.2.2⟩
  have mis : isW tx L a 0 = false → isW tx L a 1 = false → isW tx L a 2 = false → isW tx L a 3 = false → g_Wp E l mX7_readsStatement { frames := 7, cells := 0, slots := 0, locals := 149 } (g_Fin E (g_rk (fun I' J' => rsQ I J tx L I' J' (stO tx L Q)) R D N ex) 0 0) 0 0 100 [(0, .ref 79)] [] (I, J, R, D, N, ex) := by
    intro w0 w1 w2 w3
    cases w4 : isW tx L a 4 with
    | false =>
      have hQ3 : Q = .inl (tkS tx L a, 1) := by rw [← hQ]; unfold rdStM; rw [w0, if_neg (by decide), w1, if_neg (by decide), w2, if_neg (by decide), w3, if_neg (by decide), w4, if_neg (by decide)]
      have h28 : (up2 (up2 I 79 28 (nI 1)) 79 29 (I 79 24)) 79 28 = nI 1 := by rw [up2_n _ _ (by simp), up2_s]
      have h28' : (up2 (up2 (up2 (up2 I 79 28 (nI 1)) 79 29 (I 79 24)) 79 32 1) 80 10 1) 79 28 = nI 1 := by rw [up2_n _ _ (by simp), up2_n _ _ (by simp)]; exact h28
      have fin : rsQ I J tx L (up2 (up2 (up2 (up2 I 79 28 (nI 1)) 79 29 (I 79 24)) 79 32 1) 80 10 1) J Q := by
        rw [hQ3]
        exact ⟨fd _ _ _ _ (fz _ _ _ _ ((frW.refl I J).er _ _) (by decide)), h28', by rw [up2_n _ _ (by simp), up2_n _ _ (by simp), up2_s]; exact hm.1, (by dsimp only; decide), (by dsimp only; decide)⟩
      refine w_aload_n dX7_readsStatement_100 rfl ?_
      refine w_aload_n dX7_readsStatement_101 rfl ?_
      refine w_ldcS (i := 4) (tx := "misere") dX7_readsStatement_102 (by decide +kernel) (by decide) ?_
      refine y_callV dX7_readsStatement_104 lk_X7_192 [.ref (1001 + 4)] rfl (m_isWord E l hR hg hr hm ha (show 4 < 10 by decide)) (g_recv.obj (ci := 7) rfl (by decide) (show 79 < N by omega)) rfl ⟨⟨by decide, by decide⟩, by decide, by decide⟩ (lb rfl) ?_
      rw [w4]
      refine w_iconst (v := 1) dX7_readsStatement_107 (by decide) ?_
      refine y_callV dX7_readsStatement_108 lk_X7_183 [.int 0, .int (nI 1)] rfl (m_must_f E l hR hg (k := 1) (by decide)) (g_recv.obj (ci := 7) rfl (by decide) (show 79 < N by omega)) rfl ⟨⟨by decide, by decide⟩, by decide, by decide⟩ (lb rfl) ?_
      refine w_pop dX7_readsStatement_111 rfl ?_
      refine w_aload_n dX7_readsStatement_112 rfl ?_
      refine w_aload_n dX7_readsStatement_113 rfl ?_
      refine x_getz (ci := 7) (k := 32) dX7_readsStatement_114 rfl (by decide) (by decide) (by omega) fl_X7_249 rfl ?_
      refine w_if_ne (tgt := 124) dX7_readsStatement_117 (by decide) (fun c_117 => ?_) (fun c_117 => ?_)
      · refine w_iconst (v := 0) dX7_readsStatement_124 (by decide) ?_
        refine w_iconst (v := 2) dX7_readsStatement_125 (by decide) ?_
        refine y_callV dX7_readsStatement_126 lk_X7_183 [.int _, .int 2] rfl (m_must_b E l hR h28 (by decide) _ _) (g_recv.obj (ci := 7) rfl (by decide) (show 79 < N by omega)) rfl ⟨⟨by decide, by decide⟩, by decide, by decide⟩ (lb rfl) ?_
        refine w_pop dX7_readsStatement_129 rfl ?_
        refine w_aload_n dX7_readsStatement_130 rfl ?_
        refine w_iconst (v := 1) dX7_readsStatement_131 (by decide) ?_
        refine x_putz (ci := 7) (k := 32) dX7_readsStatement_132 rfl (by decide) (by decide) (by omega) fl_X7_249 rfl rfl (by decide) ?_
        refine w_aload_n dX7_readsStatement_135 rfl ?_
        refine x_getr (ci := 7) (k := 0) (a := 80) dX7_readsStatement_136 rfl (by decide) (by decide) (by omega) fl_X7_7 (Or.inr ⟨_, rfl⟩) hR.2.1 ?_
        refine w_bipush (v := 10) dX7_readsStatement_139 (by decide) ?_
        refine w_iconst (v := 1) dX7_readsStatement_141 (by decide) ?_
        refine x_iast (j := 10) dX7_readsStatement_142 rfl (by omega) rfl (show 10 < 172 by decide) ?_
        refine w_aload_n dX7_readsStatement_143 rfl ?_
        refine z_callV dX7_readsStatement_144 lk_X7_204 [] rfl (m_goOn_b E l hR h28' (by decide)) (g_recv.obj (ci := 7) rfl (by decide) (show 79 < N by omega)) rfl ⟨⟨by decide, by decide⟩, by decide, by decide⟩ (lb rfl) ?_
        exact w_lv [0] (b147 _ J fin)
      · refine w_iconst (v := 1) dX7_readsStatement_120 (by decide) ?_
        refine w_goto (tgt := 125) dX7_readsStatement_121 (by decide) ?_
        refine w_iconst (v := 2) dX7_readsStatement_125 (by decide) ?_
        refine y_callV dX7_readsStatement_126 lk_X7_183 [.int _, .int 2] rfl (m_must_b E l hR h28 (by decide) _ _) (g_recv.obj (ci := 7) rfl (by decide) (show 79 < N by omega)) rfl ⟨⟨by decide, by decide⟩, by decide, by decide⟩ (lb rfl) ?_
        refine w_pop dX7_readsStatement_129 rfl ?_
        refine w_aload_n dX7_readsStatement_130 rfl ?_
        refine w_iconst (v := 1) dX7_readsStatement_131 (by decide) ?_
        refine x_putz (ci := 7) (k := 32) dX7_readsStatement_132 rfl (by decide) (by decide) (by omega) fl_X7_249 rfl rfl (by decide) ?_
        refine w_aload_n dX7_readsStatement_135 rfl ?_
        refine x_getr (ci := 7) (k := 0) (a := 80) dX7_readsStatement_136 rfl (by decide) (by decide) (by omega) fl_X7_7 (Or.inr ⟨_, rfl⟩) hR.2.1 ?_
        refine w_bipush (v := 10) dX7_readsStatement_139 (by decide) ?_
        refine w_iconst (v := 1) dX7_readsStatement_141 (by decide) ?_
        refine x_iast (j := 10) dX7_readsStatement_142 rfl (by omega) rfl (show 10 < 172 by decide) ?_
        refine w_aload_n dX7_readsStatement_143 rfl ?_
        refine z_callV dX7_readsStatement_144 lk_X7_204 [] rfl (m_goOn_b E l hR h28' (by decide)) (g_recv.obj (ci := 7) rfl (by decide) (show 79 < N by omega)) rfl ⟨⟨by decide, by decide⟩, by decide, by decide⟩ (lb rfl) ?_
        exact w_lv [0] (b147 _ J fin)
    | true =>
      have hQ2 : Q = rdMi tx L a P := by rw [← hQ]; unfold rdStM; rw [w0, if_neg (by decide), w1, if_neg (by decide), w2, if_neg (by decide), w3, if_neg (by decide), if_pos w4]
      unfold rdMi at hQ2
      cases hh : P.mi with
      | true =>
        rw [if_pos hh] at hQ2
        have h28 : (up2 (up2 I 79 28 (nI 2)) 79 29 (I 79 24)) 79 28 = nI 2 := by rw [up2_n _ _ (by simp), up2_s]
        have h28' : (up2 (up2 (up2 (up2 I 79 28 (nI 2)) 79 29 (I 79 24)) 79 32 1) 80 10 1) 79 28 = nI 2 := by rw [up2_n _ _ (by simp), up2_n _ _ (by simp)]; exact h28
        have fin : rsQ I J tx L (up2 (up2 (up2 (up2 I 79 28 (nI 2)) 79 29 (I 79 24)) 79 32 1) 80 10 1) J Q := by
          rw [hQ2]
          exact ⟨fd _ _ _ _ (fz _ _ _ _ ((frW.refl I J).er _ _) (by decide)), h28', by rw [up2_n _ _ (by simp), up2_n _ _ (by simp), up2_s]; exact hm.1, (by dsimp only; decide), (by dsimp only; decide)⟩
        refine w_aload_n dX7_readsStatement_100 rfl ?_
        refine w_aload_n dX7_readsStatement_101 rfl ?_
        refine w_ldcS (i := 4) (tx := "misere") dX7_readsStatement_102 (by decide +kernel) (by decide) ?_
        refine y_callV dX7_readsStatement_104 lk_X7_192 [.ref (1001 + 4)] rfl (m_isWord E l hR hg hr hm ha (show 4 < 10 by decide)) (g_recv.obj (ci := 7) rfl (by decide) (show 79 < N by omega)) rfl ⟨⟨by decide, by decide⟩, by decide, by decide⟩ (lb rfl) ?_
        rw [w4]
        refine w_iconst (v := 1) dX7_readsStatement_107 (by decide) ?_
        refine y_callV dX7_readsStatement_108 lk_X7_183 [.int 1, .int 1] rfl (m_must_t E l hR hg 1) (g_recv.obj (ci := 7) rfl (by decide) (show 79 < N by omega)) rfl ⟨⟨by decide, by decide⟩, by decide, by decide⟩ (lb rfl) ?_
        refine w_pop dX7_readsStatement_111 rfl ?_
        refine w_aload_n dX7_readsStatement_112 rfl ?_
        refine w_aload_n dX7_readsStatement_113 rfl ?_
        refine x_getz (ci := 7) (k := 32) dX7_readsStatement_114 rfl (by decide) (by decide) (by omega) fl_X7_249 rfl ?_
        rw [hp.2.2.2.2.2.2, hh]
        refine w_if_ne (tgt := 124) dX7_readsStatement_117 (by decide) (fun c_117 => ?_) (fun c_117 => absurd c_117 ((by decide)))
        refine w_iconst (v := 0) dX7_readsStatement_124 (by decide) ?_
        refine w_iconst (v := 2) dX7_readsStatement_125 (by decide) ?_
        refine y_callV dX7_readsStatement_126 lk_X7_183 [.int 0, .int (nI 2)] rfl (m_must_f E l hR hg (k := 2) (by decide)) (g_recv.obj (ci := 7) rfl (by decide) (show 79 < N by omega)) rfl ⟨⟨by decide, by decide⟩, by decide, by decide⟩ (lb rfl) ?_
        refine w_pop dX7_readsStatement_129 rfl ?_
        refine w_aload_n dX7_readsStatement_130 rfl ?_
        refine w_iconst (v := 1) dX7_readsStatement_131 (by decide) ?_
        refine x_putz (ci := 7) (k := 32) dX7_readsStatement_132 rfl (by decide) (by decide) (by omega) fl_X7_249 rfl rfl (by decide) ?_
        refine w_aload_n dX7_readsStatement_135 rfl ?_
        refine x_getr (ci := 7) (k := 0) (a := 80) dX7_readsStatement_136 rfl (by decide) (by decide) (by omega) fl_X7_7 (Or.inr ⟨_, rfl⟩) hR.2.1 ?_
        refine w_bipush (v := 10) dX7_readsStatement_139 (by decide) ?_
        refine w_iconst (v := 1) dX7_readsStatement_141 (by decide) ?_
        refine x_iast (j := 10) dX7_readsStatement_142 rfl (by omega) rfl (show 10 < 172 by decide) ?_
        refine w_aload_n dX7_readsStatement_143 rfl ?_
        refine z_callV dX7_readsStatement_144 lk_X7_204 [] rfl (m_goOn_b E l hR h28' (by decide)) (g_recv.obj (ci := 7) rfl (by decide) (show 79 < N by omega)) rfl ⟨⟨by decide, by decide⟩, by decide, by decide⟩ (lb rfl) ?_
        exact w_lv [0] (b147 _ J fin)
      | false =>
        rw [if_neg (by rw [hh]; decide)] at hQ2
        have h28 : (up2 (up2 I 79 32 1) 80 10 1) 79 28 = nI 0 := by rw [up2_n _ _ (by simp), up2_n _ _ (by simp)]; exact hg
        have f1 : frW I (up2 (up2 I 79 32 1) 80 10 1) J J := fd _ _ _ _ (fz _ _ _ _ (frW.refl I J) (by decide))
        have h25 : (up2 (up2 I 79 32 1) 80 10 1) 79 25 = nI (tkE tx L a) := by rw [up2_n _ _ (by simp), up2_n _ _ (by simp)]; exact hm.2.1
        have sl : slM (up2 (up2 I 79 32 1) 80 10 1) 80 0 (P.hs, P.ps, true, []) := (e9.fr (show up2 I 79 32 1 80 = I 80 from by funext j; exact up2_n _ _ (by simp))).mis hP.2.2.1.1 true
        refine w_aload_n dX7_readsStatement_100 rfl ?_
        refine w_aload_n dX7_readsStatement_101 rfl ?_
        refine w_ldcS (i := 4) (tx := "misere") dX7_readsStatement_102 (by decide +kernel) (by decide) ?_
        refine y_callV dX7_readsStatement_104 lk_X7_192 [.ref (1001 + 4)] rfl (m_isWord E l hR hg hr hm ha (show 4 < 10 by decide)) (g_recv.obj (ci := 7) rfl (by decide) (show 79 < N by omega)) rfl ⟨⟨by decide, by decide⟩, by decide, by decide⟩ (lb rfl) ?_
        rw [w4]
        refine w_iconst (v := 1) dX7_readsStatement_107 (by decide) ?_
        refine y_callV dX7_readsStatement_108 lk_X7_183 [.int 1, .int 1] rfl (m_must_t E l hR hg 1) (g_recv.obj (ci := 7) rfl (by decide) (show 79 < N by omega)) rfl ⟨⟨by decide, by decide⟩, by decide, by decide⟩ (lb rfl) ?_
        refine w_pop dX7_readsStatement_111 rfl ?_
        refine w_aload_n dX7_readsStatement_112 rfl ?_
        refine w_aload_n dX7_readsStatement_113 rfl ?_
        refine x_getz (ci := 7) (k := 32) dX7_readsStatement_114 rfl (by decide) (by decide) (by omega) fl_X7_249 rfl ?_
        rw [hp.2.2.2.2.2.2, hh]
        refine w_if_ne (tgt := 124) dX7_readsStatement_117 (by decide) (fun c_117 => absurd (rfl) c_117) (fun c_117 => ?_)
        refine w_iconst (v := 1) dX7_readsStatement_120 (by decide) ?_
        refine w_goto (tgt := 125) dX7_readsStatement_121 (by decide) ?_
        refine w_iconst (v := 2) dX7_readsStatement_125 (by decide) ?_
        refine y_callV dX7_readsStatement_126 lk_X7_183 [.int 1, .int 2] rfl (m_must_t E l hR hg 2) (g_recv.obj (ci := 7) rfl (by decide) (show 79 < N by omega)) rfl ⟨⟨by decide, by decide⟩, by decide, by decide⟩ (lb rfl) ?_
        refine w_pop dX7_readsStatement_129 rfl ?_
        refine w_aload_n dX7_readsStatement_130 rfl ?_
        refine w_iconst (v := 1) dX7_readsStatement_131 (by decide) ?_
        refine x_putz (ci := 7) (k := 32) dX7_readsStatement_132 rfl (by decide) (by decide) (by omega) fl_X7_249 rfl rfl (by decide) ?_
        refine w_aload_n dX7_readsStatement_135 rfl ?_
        refine x_getr (ci := 7) (k := 0) (a := 80) dX7_readsStatement_136 rfl (by decide) (by decide) (by omega) fl_X7_7 (Or.inr ⟨_, rfl⟩) hR.2.1 ?_
        refine w_bipush (v := 10) dX7_readsStatement_139 (by decide) ?_
        refine w_iconst (v := 1) dX7_readsStatement_141 (by decide) ?_
        refine x_iast (j := 10) dX7_readsStatement_142 rfl (by omega) rfl (show 10 < 172 by decide) ?_
        refine w_aload_n dX7_readsStatement_143 rfl ?_
        refine k_callV dX7_readsStatement_144 lk_X7_204 [] rfl (m_goOn E l hR h28 (hr.w f1) hb.2.2.2.1 h25) (g_recv.obj (ci := 7) rfl (by decide) (show 79 < N by omega)) rfl ⟨⟨by decide, by decide⟩, by decide, by decide⟩ (lb rfl) (fun I2 J2 h_144 => ?_)
        obtain ⟨k1, k2⟩ := h_144
        refine w_lv [0] (b147 _ J2 ?_)
        rw [hQ2]
        have u79 : ∀ j, (j < 24 ∨ 27 < j) → j ≠ 32 → I2 79 j = I 79 j := fun j x y => (k1.2.1 j x).trans (by rw [up2_n _ _ (by simp), up2_n _ _ (by simp [y])])
        exact ⟨f1.trans k1.u.w, by rw [k1.2.1 28 (by decide)]; exact h28, k2, by rw [u79 15 (by decide) (by decide)]; exact hp.1, fun k hk => ⟨(hp.2.1 k hk).1.fr (fun o x y => by rw [k1.1 o (by omega)]; funext j; rw [up2_n _ _ (by omega), up2_n _ _ (by omega)]), by rw [k1.2.2 92 k (by simp)]; exact (hp.2.1 k hk).2⟩, by rw [u79 16 (by decide) (by decide)]; exact hp.2.2.1, sl.fr (k1.1 80 (by decide)), by rw [u79 30 (by decide) (by decide)]; exact hp.2.2.2.2.1, by rw [u79 31 (by decide) (by decide)]; exact hp.2.2.2.2.2.1, by rw [k1.2.1 32 (by decide), up2_n _ _ (by simp), up2_s]; rfl⟩
  refine w_aload_n dX7_readsStatement_0 rfl ?_
  refine w_ldcS (i := 0) (tx := "rule") dX7_readsStatement_1 (by decide +kernel) (by decide) ?_
  refine y_callV dX7_readsStatement_3 lk_X7_192 [.ref (1001 + 0)] rfl (m_isWord E l hR hg hr hm ha (show 0 < 10 by decide)) (g_recv.obj (ci := 7) rfl (by decide) (show 79 < N by omega)) rfl ⟨⟨by decide, by decide⟩, by decide, by decide⟩ (lb rfl) ?_
  refine w_if_eq (tgt := 16) dX7_readsStatement_6 (by decide) (fun c_6 => ?_) (fun c_6 => ?_)
  · refine w_aload_n dX7_readsStatement_16 rfl ?_
    refine w_ldcS (i := 1) (tx := "heap") dX7_readsStatement_17 (by decide +kernel) (by decide) ?_
    refine y_callV dX7_readsStatement_19 lk_X7_192 [.ref (1001 + 1)] rfl (m_isWord E l hR hg hr hm ha (show 1 < 10 by decide)) (g_recv.obj (ci := 7) rfl (by decide) (show 79 < N by omega)) rfl ⟨⟨by decide, by decide⟩, by decide, by decide⟩ (lb rfl) ?_
    refine w_if_eq (tgt := 32) dX7_readsStatement_22 (by decide) (fun c_22 => ?_) (fun c_22 => ?_)
    · refine w_aload_n dX7_readsStatement_32 rfl ?_
      refine w_ldcS (i := 2) (tx := "shared") dX7_readsStatement_33 (by decide +kernel) (by decide) ?_
      refine y_callV dX7_readsStatement_35 lk_X7_192 [.ref (1001 + 2)] rfl (m_isWord E l hR hg hr hm ha (show 2 < 10 by decide)) (g_recv.obj (ci := 7) rfl (by decide) (show 79 < N by omega)) rfl ⟨⟨by decide, by decide⟩, by decide, by decide⟩ (lb rfl) ?_
      refine w_if_eq (tgt := 48) dX7_readsStatement_38 (by decide) (fun c_38 => ?_) (fun c_38 => ?_)
      · refine w_aload_n dX7_readsStatement_48 rfl ?_
        refine w_ldcS (i := 3) (tx := "passes") dX7_readsStatement_49 (by decide +kernel) (by decide) ?_
        refine y_callV dX7_readsStatement_51 lk_X7_192 [.ref (1001 + 3)] rfl (m_isWord E l hR hg hr hm ha (show 3 < 10 by decide)) (g_recv.obj (ci := 7) rfl (by decide) (show 79 < N by omega)) rfl ⟨⟨by decide, by decide⟩, by decide, by decide⟩ (lb rfl) ?_
        refine w_if_eq (tgt := 100) dX7_readsStatement_54 (by decide) (fun c_54 => ?_) (fun c_54 => ?_)
        · exact w_lv [0] (mis (b2i_0.mp c_6) (b2i_0.mp c_22) (b2i_0.mp c_38) (b2i_0.mp c_54))
        · exact w_lv [0] (pas (b2i_0.mp c_6) (b2i_0.mp c_22) (b2i_0.mp c_38) (b2i_ne.mp c_54))
      · refine w_aload_n dX7_readsStatement_41 rfl ?_
        refine k_callV dX7_readsStatement_42 lk_X7_239 [] rfl (m_readsShared E l hR hg hr hm ha hp) (g_recv.obj (ci := 7) rfl (by decide) (show 79 < N by omega)) rfl ⟨⟨by decide, by decide⟩, by decide, by decide⟩ (lb rfl) (fun I2 J2 h_42 => ?_)
        have hQ9 : rdShM tx L a P = Q := (by rw [← hQ]; unfold rdStM; rw [b2i_0.mp c_6, if_neg (by decide), b2i_0.mp c_22, if_neg (by decide), if_pos (b2i_ne.mp c_38)])
        rw [hQ9] at h_42
        refine w_goto (tgt := 147) dX7_readsStatement_45 (by decide) ?_
        first | exact w_lv [0] (b147 _ _ h_10) | exact w_lv [0] (b147 _ _ h_26) | exact w_lv [0] (b147 _ _ h_42)
    · refine w_aload_n dX7_readsStatement_25 rfl ?_
      refine k_callV dX7_readsStatement_26 lk_X7_235 [] rfl (m_readsHeap E l hR hg hr hm ha hp hP) (g_recv.obj (ci := 7) rfl (by decide) (show 79 < N by omega)) rfl ⟨⟨by decide, by decide⟩, by decide, by decide⟩ (lb rfl) (fun I2 J2 h_26 => ?_)
      have hQ9 : rdHe tx L a P = Q := (by rw [← hQ]; unfold rdStM; rw [b2i_0.mp c_6, if_neg (by decide), if_pos (b2i_ne.mp c_22)])
      rw [hQ9] at h_26
      refine w_goto (tgt := 147) dX7_readsStatement_29 (by decide) ?_
      first | exact w_lv [0] (b147 _ _ h_10) | exact w_lv [0] (b147 _ _ h_26) | exact w_lv [0] (b147 _ _ h_42)
  · refine w_aload_n dX7_readsStatement_9 rfl ?_
    refine k_callV dX7_readsStatement_10 lk_X7_230 [] rfl (m_readsRule E l hR hg hr hm ha hp hP) (g_recv.obj (ci := 7) rfl (by decide) (show 79 < N by omega)) rfl ⟨⟨by decide, by decide⟩, by decide, by decide⟩ (lb rfl) (fun I2 J2 h_10 => ?_)
    have hQ9 : rdRuM tx L a P = Q := (by rw [← hQ]; unfold rdStM; rw [if_pos (b2i_ne.mp c_6)])
    rw [hQ9] at h_10
    refine w_goto (tgt := 147) dX7_readsStatement_13 (by decide) ?_
    first | exact w_lv [0] (b147 _ _ h_10) | exact w_lv [0] (b147 _ _ h_26) | exact w_lv [0] (b147 _ _ h_42)
end ME2
