/-! HeapGamesModel: undo, snapshots, checksum -/
theorem rM.snp {I I' : Nat → Nat → Int32} {A : AS} {c : Nat} (h : rM I A c) (f : ∀ o, o ≠ 83 → o ≠ 84 → I' o = I o) {sn : Nat → Option St} (hh : snM I' sn) : rM I' (A.ru, A.nr, A.st, A.hi, sn, A.tx, A.tl) c := by
  obtain ⟨h1, h2, h3, h4, h5, h6, h7, h8⟩ := h
  have g : ∀ o, o ≠ 83 → o ≠ 84 → I' o = I o := f
  have g79 : ∀ k, I' 79 k = I 79 k := fun k => by rw [g 79 (by decide) (by decide)]
  exact ⟨h1.fr (g _ (by decide) (by decide)), h2.fr (g _ (by decide) (by decide)) (g79 _), hh, h4.fr (fun o a b => g o (by omega) (by omega)) (g79 _) (g79 _), h5.fr (g _ (by decide) (by decide)) (g _ (by decide) (by decide)), h6.fr (g _ (by decide) (by decide)) (g79 _), h7.fr (g _ (by decide) (by decide)) (g79 _), h8.fr (g _ (by decide) (by decide)) (g _ (by decide) (by decide)) (fun k _ _ => g79 k)⟩
theorem cp_in {I : Nat → Nat → Int32} {o1 a o2 b j : Nat} (hj : j < 172) : cpI I o1 a o2 b 172 o2 (b + j) = I o1 (a + j) := by
  show (if o2 = o2 ∧ b ≤ b + j ∧ b + j < b + 172 then I o1 (a + (b + j - b)) else _) = _
  rw [if_pos ⟨rfl, by omega, by omega⟩, show b + j - b = j by omega]
theorem cp_out {I : Nat → Nat → Int32} {o1 a o2 b m o j : Nat} (h : o ≠ o2 ∨ j < b ∨ b + m ≤ j) : cpI I o1 a o2 b m o j = I o j := if_neg (by omega)
section MX
variable (E : GE) (l : Launch)
variable {I : Nat → Nat → Int32} {J : Nat → Nat → Int64} {R : Nat → Nat → Option Nat} {D : Nat → Nat → UInt64} {N : Nat} {ex : Bool} {A : AS} {c : Nat}

set_option maxRecDepth 100000 in
theorem m_undo_no (hR : lkM R N) (hA : aOK A) (h : rM I A c) (hh : A.hi = []) : g_Ct E l mX7_undo 1 25 0 0 [.ref 79] (I, J, R, D, N, ex) (g_is (some (.int (-1))) (up2 I 79 17 0, J, R, D, N, ex)) := by
  refine g_Ct.of (by decide +kernel) (lb rfl) ?_
  have hN := hR.1
  have h9 := h.thr 0
  have z9 : up2 I 79 17 0 79 17 = 0 := up2_s ..
  refine w_aload_n dX7_undo_0 rfl ?_
  refine w_iconst (v := 0) dX7_undo_1 (by decide) ?_
  refine x_puti (ci := 7) (k := 17) dX7_undo_2 rfl (by decide) (by decide) (by omega) fl_X7_73 rfl rfl ?_
  refine w_aload_n dX7_undo_5 rfl ?_
  refine x_geti (ci := 7) (k := 5) dX7_undo_6 rfl (by decide) (by decide) (by omega) fl_X7_271 rfl ?_
  rw [show up2 I 79 17 0 79 5 = nI A.hi.length from h9.2.1.2.1, hh]
  refine w_if_ne (tgt := 14) dX7_undo_9 (by decide) (fun c_9 => absurd ((show nI ([] : List St).length = 0 from rfl)) c_9) (fun c_9 => ?_)
  refine w_iconst (v := (-1)) dX7_undo_12 (by decide) ?_
  refine w_iret dX7_undo_13 rfl rfl ⟨rfl, rfl⟩ (by decide) (by decide)
set_option maxRecDepth 100000 in
theorem m_undo (hR : lkM R N) (hA : aOK A) (h : rM I A c) {x : St} {hi : List St} (hh : A.hi = x :: hi) : g_Ct E l mX7_undo 1 25 0 0 [.ref 79] (I, J, R, D, N, ex) (g_ri (fun y I' => y = nI hi.length ∧ qP I (A.up x hi) c 0 I') J R D N ex) := by
  refine g_Ct.of (by decide +kernel) (lb rfl) ?_
  have hN := hR.1
  have h9 := h.thr 0
  have z9 : up2 I 79 17 0 79 17 = 0 := up2_s ..
  have hs := hA.2.2.1
  have l4 := hs.1
  obtain ⟨q1, q2, q3⟩ := h9.2.1
  rw [hh] at q1 q2
  have hl : (x :: hi).length = hi.length + 1 := rfl
  rw [hl] at q1 q2
  have hx : stOK A.nr x := by have := hA.2.2.2.2.2.1 0 (by rw [hh]; exact Nat.succ_pos _); simp only [hh] at this; exact this
  have hx2 : slM (up2 I 79 17 0) 82 (172 * hi.length) x := by have := q3 0 (by rw [hh]; exact Nat.succ_pos _); simp only [hh] at this; rw [show 172 * ((x :: hi).length - 1 - 0) = 172 * hi.length from by rw [hl]; omega] at this; exact this
  have hhi : ∀ i (hi' : i < hi.length), slM (up2 I 79 17 0) 82 (172 * (hi.length - 1 - i)) hi[i] := fun i hi' => by
    have := q3 (i + 1) (by rw [hh]; exact Nat.succ_lt_succ hi')
    simp only [hh, List.getElem_cons_succ] at this
    rw [show 172 * ((x :: hi).length - 1 - (i + 1)) = 172 * (hi.length - 1 - i) from by rw [hl]; omega] at this
    exact this
  have f1 : frK2 (up2 I 79 17 0) (up2 (up2 I 79 17 0) 79 5 (nI hi.length)) := ⟨fun o a b => by funext j; exact up2_n _ _ (by simp [a]), fun k a => up2_n _ _ (by simp [a])⟩
  have r1 := h9.his f1 (hi := hi) ⟨by omega, up2_s .., fun i hi' => (hhi i hi').fr (by funext j; exact up2_n _ _ (by simp))⟩
  generalize hI1 : up2 (up2 I 79 17 0) 79 5 (nI hi.length) = I1 at *
  have f2 : frD I1 (cpI I1 82 (172 * hi.length) 80 0 172) := fun o ho => by funext j; exact cp_out (Or.inl ho)
  have e82 : I1 82 = up2 I 79 17 0 82 := by rw [← hI1]; rfl
  have r2 := r1.dat f2 (s := x) (slM.cp (hx2.fr e82) hx (fun j hj => cp_in hj))
  have e5 : (nI 172 * nI hi.length : Int32) = nI (172 * hi.length) := pk_mul 172 hi.length
  refine w_aload_n dX7_undo_0 rfl ?_
  refine w_iconst (v := 0) dX7_undo_1 (by decide) ?_
  refine x_puti (ci := 7) (k := 17) dX7_undo_2 rfl (by decide) (by decide) (by omega) fl_X7_73 rfl rfl ?_
  refine w_aload_n dX7_undo_5 rfl ?_
  refine x_geti (ci := 7) (k := 5) dX7_undo_6 rfl (by decide) (by decide) (by omega) fl_X7_271 rfl ?_
  rw [q2]
  refine w_if_ne (tgt := 14) dX7_undo_9 (by decide) (fun c_9 => ?_) (fun c_9 => absurd c_9 ((fun q => absurd (n_eq (b := 0) q) (by omega))))
  refine w_aload_n dX7_undo_14 rfl ?_
  refine w_dup dX7_undo_15 rfl ?_
  refine x_geti (ci := 7) (k := 5) dX7_undo_16 rfl (by decide) (by decide) (by omega) fl_X7_271 rfl ?_
  rw [q2]
  refine w_iconst (v := 1) dX7_undo_19 (by decide) ?_
  refine w_isub dX7_undo_20 ?_
  rw [nI_pred]
  refine x_puti (ci := 7) (k := 5) dX7_undo_21 rfl (by decide) (by decide) (by omega) fl_X7_271 rfl rfl ?_
  rw [hI1]
  refine w_aload_n dX7_undo_24 rfl ?_
  refine x_getr (ci := 7) (k := 2) (a := 82) dX7_undo_25 rfl (by decide) (by decide) (by omega) fl_X7_16 (Or.inr ⟨_, rfl⟩) hR.2.2.2.1 ?_
  refine w_sipush (v := 172) dX7_undo_28 (by decide) ?_
  refine w_aload_n dX7_undo_31 rfl ?_
  refine x_geti (ci := 7) (k := 5) dX7_undo_32 rfl (by decide) (by decide) (by omega) fl_X7_271 rfl ?_
  rw [show I1 79 5 = nI hi.length from by rw [← hI1]; exact up2_s ..]
  refine w_imul dX7_undo_35 ?_
  rw [show (172 : Int32) * nI hi.length = nI (172 * hi.length) from e5]
  refine w_aload_n dX7_undo_36 rfl ?_
  refine x_getr (ci := 7) (k := 0) (a := 80) dX7_undo_37 rfl (by decide) (by decide) (by omega) fl_X7_7 (Or.inr ⟨_, rfl⟩) hR.2.1 ?_
  refine w_iconst (v := 0) dX7_undo_40 (by decide) ?_
  refine w_sipush (v := 172) dX7_undo_41 (by decide) ?_
  refine z_callS dX7_undo_44 lk_X7_252 [.ref 82, .int (nI (172 * hi.length)), .ref 80, .int (nI 0), .int (nI 172)] rfl (m_copies E l (o1 := 82) (o2 := 80) (n1 := 1720) (n2 := 172) rfl rfl (by omega) (by omega) (by decide) (by omega) (by decide) (by decide) (by decide)) rfl ⟨⟨by decide, by decide⟩, by decide, by decide⟩ (lb rfl) ?_
  refine w_aload_n dX7_undo_47 rfl ?_
  refine x_geti (ci := 7) (k := 5) dX7_undo_48 rfl (by decide) (by decide) (by omega) fl_X7_271 rfl ?_
  rw [show cpI I1 82 (172 * hi.length) 80 0 172 79 5 = nI hi.length from (cp_out (Or.inl (by decide))).trans (by rw [← hI1]; exact up2_s ..)]
  refine w_iret dX7_undo_51 rfl rfl ⟨_, _, rfl, ⟨rfl, qP.of (f1.o.trans f2.o) (r2.up (Nat.le_succ c))⟩, rfl⟩ (by decide) (by decide)
set_option maxRecDepth 100000 in
theorem m_maySlot_t (hN : 79 < N) (h0 : I 79 17 = 0) {k : Nat} (hk : k < 2) : g_Ct E l mX7_maySlot 1 22 0 0 [.ref 79, .int (nI k)] (I, J, R, D, N, ex) (g_is (some (.int (b2i true))) (I, J, R, D, N, ex)) := by
  refine g_Ct.of (by decide +kernel) (lb rfl) ?_
  refine w_aload_n dX7_maySlot_0 rfl ?_
  refine w_iload_n dX7_maySlot_1 rfl ?_
  refine w_iconst (v := 0) dX7_maySlot_2 (by decide) ?_
  refine w_iconst (v := 1) dX7_maySlot_3 (by decide) ?_
  refine y_callS dX7_maySlot_4 lk_X7_77 [.int (nI k), .int 0, .int 1] rfl (m_within E l _ _ _ _) rfl ⟨⟨by decide, by decide⟩, by decide, by decide⟩ (lb rfl) ?_
  rw [decide_eq_true (show ¬ nI k < 0 ∧ ¬ (1 : Int32) < nI k from wi_t (n := 2) hk (by omega))]
  refine w_iconst (v := 1) dX7_maySlot_7 (by decide) ?_
  refine y_callV dX7_maySlot_8 lk_X7_256 [.int 1, .int 1] rfl (m_may_t E l hN h0 1) (g_recv.obj (ci := 7) rfl (by decide) hN) rfl ⟨⟨by decide, by decide⟩, by decide, by decide⟩ (lb rfl) ?_
  refine w_iret dX7_maySlot_11 rfl rfl ⟨rfl, rfl⟩ (by decide) (by decide)
set_option maxRecDepth 100000 in
theorem m_maySlot_f (hN : 79 < N) (h0 : I 79 17 = 0) {x : Int32} (hx : x < 0 ∨ ¬ x < nI 2) : g_Ct E l mX7_maySlot 1 22 0 0 [.ref 79, .int x] (I, J, R, D, N, ex) (g_is (some (.int (b2i false))) (up2 I 79 17 1, J, R, D, N, ex)) := by
  refine g_Ct.of (by decide +kernel) (lb rfl) ?_
  refine w_aload_n dX7_maySlot_0 rfl ?_
  refine w_iload_n dX7_maySlot_1 rfl ?_
  refine w_iconst (v := 0) dX7_maySlot_2 (by decide) ?_
  refine w_iconst (v := 1) dX7_maySlot_3 (by decide) ?_
  refine y_callS dX7_maySlot_4 lk_X7_77 [.int x, .int 0, .int 1] rfl (m_within E l _ _ _ _) rfl ⟨⟨by decide, by decide⟩, by decide, by decide⟩ (lb rfl) ?_
  rw [decide_eq_false (show ¬ (¬ x < 0 ∧ ¬ (1 : Int32) < x) from wi_f (n := 2) (by omega) hx)]
  refine w_iconst (v := 1) dX7_maySlot_7 (by decide) ?_
  refine y_callV dX7_maySlot_8 lk_X7_256 [.int 0, .int 1] rfl (m_may_f E l hN h0 (by decide)) (g_recv.obj (ci := 7) rfl (by decide) hN) rfl ⟨⟨by decide, by decide⟩, by decide, by decide⟩ (lb rfl) ?_
  refine w_iret dX7_maySlot_11 rfl rfl ⟨rfl, rfl⟩ (by decide) (by decide)
set_option maxRecDepth 100000 in
theorem m_saveSnapshot_x1 (hR : lkM R N) (hA : aOK A) (h : rM I A c) {x : Int32} (hx : x < 0 ∨ ¬ x < nI 2) : g_Ct E l mX7_saveSnapshot 2 43 0 0 [.ref 79, .int x] (I, J, R, D, N, ex) (g_is (some (.int 0)) (up2 (up2 I 79 17 0) 79 17 1, J, R, D, N, ex)) := by
  refine g_Ct.of (by decide +kernel) (lb rfl) ?_
  have hN := hR.1
  have h9 := h.thr 0
  have z9 : up2 I 79 17 0 79 17 = 0 := up2_s ..
  refine w_aload_n dX7_saveSnapshot_0 rfl ?_
  refine w_iconst (v := 0) dX7_saveSnapshot_1 (by decide) ?_
  refine x_puti (ci := 7) (k := 17) dX7_saveSnapshot_2 rfl (by decide) (by decide) (by omega) fl_X7_73 rfl rfl ?_
  refine w_aload_n dX7_saveSnapshot_5 rfl ?_
  refine w_iload_n dX7_saveSnapshot_6 rfl ?_
  refine y_callV dX7_saveSnapshot_7 lk_X7_400 [.int x] rfl (m_maySlot_f E l (by omega) z9 hx) (g_recv.obj (ci := 7) rfl (by decide) (show 79 < N by omega)) rfl ⟨⟨by decide, by decide⟩, by decide, by decide⟩ (lb rfl) ?_
  refine w_if_ne (tgt := 15) dX7_saveSnapshot_10 (by decide) (fun c_10 => absurd (rfl) c_10) (fun c_10 => ?_)
  refine w_iconst (v := 0) dX7_saveSnapshot_13 (by decide) ?_
  refine w_iret dX7_saveSnapshot_14 rfl rfl ⟨rfl, rfl⟩ (by decide) (by decide)
set_option maxRecDepth 100000 in
theorem m_restoreSnapshot_x1 (hR : lkM R N) (hA : aOK A) (h : rM I A c) {x : Int32} (hx : x < 0 ∨ ¬ x < nI 2) : g_Ct E l mX7_restoreSnapshot 2 43 0 0 [.ref 79, .int x] (I, J, R, D, N, ex) (g_is (some (.int 0)) (up2 (up2 I 79 17 0) 79 17 1, J, R, D, N, ex)) := by
  refine g_Ct.of (by decide +kernel) (lb rfl) ?_
  have hN := hR.1
  have h9 := h.thr 0
  have z9 : up2 I 79 17 0 79 17 = 0 := up2_s ..
  refine w_aload_n dX7_restoreSnapshot_0 rfl ?_
  refine w_iconst (v := 0) dX7_restoreSnapshot_1 (by decide) ?_
  refine x_puti (ci := 7) (k := 17) dX7_restoreSnapshot_2 rfl (by decide) (by decide) (by omega) fl_X7_73 rfl rfl ?_
  refine w_aload_n dX7_restoreSnapshot_5 rfl ?_
  refine w_iload_n dX7_restoreSnapshot_6 rfl ?_
  refine y_callV dX7_restoreSnapshot_7 lk_X7_400 [.int x] rfl (m_maySlot_f E l (by omega) z9 hx) (g_recv.obj (ci := 7) rfl (by decide) (show 79 < N by omega)) rfl ⟨⟨by decide, by decide⟩, by decide, by decide⟩ (lb rfl) ?_
  refine w_if_eq (tgt := 27) dX7_restoreSnapshot_10 (by decide) (fun c_10 => ?_) (fun c_10 => absurd (rfl) c_10)
  refine w_iconst (v := 0) dX7_restoreSnapshot_27 (by decide) ?_
  refine w_iret dX7_restoreSnapshot_28 rfl rfl ⟨rfl, rfl⟩ (by decide) (by decide)
set_option maxRecDepth 100000 in
theorem m_saveSnapshot (hR : lkM R N) (hA : aOK A) (h : rM I A c) {k : Nat} (hk : k < 2) : g_Ct E l mX7_saveSnapshot 2 43 0 0 [.ref 79, .int (nI k)] (I, J, R, D, N, ex) (g_ri (fun y I' => y = b2i (A.sn k).isSome ∧ qP I (A.sav k) c 0 I') J R D N ex) := by
  refine g_Ct.of (by decide +kernel) (lb rfl) ?_
  have hN := hR.1
  have h9 := h.thr 0
  have z9 : up2 I 79 17 0 79 17 = 0 := up2_s ..
  have hs := hA.2.2.1
  have l4 := hs.1
  have hsn := h9.2.2.1
  have e5 : (nI 172 * nI k : Int32) = nI (172 * k) := pk_mul 172 k
  generalize hI0 : up2 I 79 17 0 = I0 at *
  have fs : ∀ o, o ≠ 83 → o ≠ 84 → up2 (cpI I0 80 0 83 (172 * k) 172) 84 k 1 o = I0 o := fun o a b => by funext j; rw [up2_n _ _ (by simp [b])]; exact cp_out (Or.inl a)
  have sl : snM (up2 (cpI I0 80 0 83 (172 * k) 172) 84 k 1) (A.sav k).sn := fun j hj => by
    show up2 (cpI I0 80 0 83 (172 * k) 172) 84 k 1 84 j = b2i (if j = k then some A.st else A.sn j).isSome ∧ ∀ s, (if j = k then some A.st else A.sn j) = some s → _
    by_cases e : j = k
    · subst e
      rw [if_pos rfl, up2_s]
      refine ⟨rfl, fun s hs' => ?_⟩
      cases hs'
      exact slM.cp h9.1 hs (fun i hi => by rw [up2_n _ _ (by simp), Nat.zero_add]; exact (cp_in hi).trans (by rw [Nat.zero_add]))
    · rw [if_neg e, up2_n _ _ (by simp [e])]
      refine ⟨(cp_out (Or.inl (by decide))).trans (hsn j hj).1, fun s hs' => slM.cp ((hsn j hj).2 s hs') (hA.2.2.2.2.2.2 j hj s hs') (fun i hi => ?_)⟩
      rw [up2_n _ _ (by simp)]
      exact cp_out (by omega)
  have fo : frO I0 (up2 (cpI I0 80 0 83 (172 * k) 172) 84 k 1) := ⟨fun o ho => fs o (by omega) (by omega), by rw [fs 79 (by decide) (by decide)]⟩
  refine w_aload_n dX7_saveSnapshot_0 rfl ?_
  refine w_iconst (v := 0) dX7_saveSnapshot_1 (by decide) ?_
  refine x_puti (ci := 7) (k := 17) dX7_saveSnapshot_2 rfl (by decide) (by decide) (by omega) fl_X7_73 rfl rfl ?_
  rw [hI0]
  refine w_aload_n dX7_saveSnapshot_5 rfl ?_
  refine w_iload_n dX7_saveSnapshot_6 rfl ?_
  refine y_callV dX7_saveSnapshot_7 lk_X7_400 [.int (nI k)] rfl (m_maySlot_t E l (by omega) z9 hk) (g_recv.obj (ci := 7) rfl (by decide) (show 79 < N by omega)) rfl ⟨⟨by decide, by decide⟩, by decide, by decide⟩ (lb rfl) ?_
  refine w_if_ne (tgt := 15) dX7_saveSnapshot_10 (by decide) (fun c_10 => ?_) (fun c_10 => absurd c_10 ((by decide)))
  refine w_aload_n dX7_saveSnapshot_15 rfl ?_
  refine x_getr (ci := 7) (k := 4) (a := 84) dX7_saveSnapshot_16 rfl (by decide) (by decide) (by omega) fl_X7_22 (Or.inr ⟨_, rfl⟩) hR.2.2.2.2.2.1 ?_
  refine w_iload_n dX7_saveSnapshot_19 rfl ?_
  refine x_zald (j := k) dX7_saveSnapshot_20 rfl (by omega) rfl (show k < 2 from hk) ?_
  rw [(hsn k hk).1]
  refine w_istore_n dX7_saveSnapshot_21 (by decide) rfl ?_
  refine w_aload_n dX7_saveSnapshot_22 rfl ?_
  refine x_getr (ci := 7) (k := 0) (a := 80) dX7_saveSnapshot_23 rfl (by decide) (by decide) (by omega) fl_X7_7 (Or.inr ⟨_, rfl⟩) hR.2.1 ?_
  refine w_iconst (v := 0) dX7_saveSnapshot_26 (by decide) ?_
  refine w_aload_n dX7_saveSnapshot_27 rfl ?_
  refine x_getr (ci := 7) (k := 3) (a := 83) dX7_saveSnapshot_28 rfl (by decide) (by decide) (by omega) fl_X7_19 (Or.inr ⟨_, rfl⟩) hR.2.2.2.2.1 ?_
  refine w_sipush (v := 172) dX7_saveSnapshot_31 (by decide) ?_
  refine w_iload_n dX7_saveSnapshot_34 rfl ?_
  refine w_imul dX7_saveSnapshot_35 ?_
  rw [show (172 : Int32) * nI k = nI (172 * k) from e5]
  refine w_sipush (v := 172) dX7_saveSnapshot_36 (by decide) ?_
  refine z_callS dX7_saveSnapshot_39 lk_X7_252 [.ref 80, .int (nI 0), .ref 83, .int (nI (172 * k)), .int (nI 172)] rfl (m_copies E l (o1 := 80) (o2 := 83) (n1 := 172) (n2 := 344) rfl rfl (by omega) (by omega) (by decide) (by decide) (by omega) (by decide) (by decide)) rfl ⟨⟨by decide, by decide⟩, by decide, by decide⟩ (lb rfl) ?_
  refine w_aload_n dX7_saveSnapshot_42 rfl ?_
  refine x_getr (ci := 7) (k := 4) (a := 84) dX7_saveSnapshot_43 rfl (by decide) (by decide) (by omega) fl_X7_22 (Or.inr ⟨_, rfl⟩) hR.2.2.2.2.2.1 ?_
  refine w_iload_n dX7_saveSnapshot_46 rfl ?_
  refine w_iconst (v := 1) dX7_saveSnapshot_47 (by decide) ?_
  refine x_zast (j := k) dX7_saveSnapshot_48 rfl (by omega) rfl (show k < 2 from hk) (by decide) ?_
  refine w_iload_n dX7_saveSnapshot_49 rfl ?_
  refine w_iret dX7_saveSnapshot_50 rfl (nz_b _) ⟨_, _, rfl, ⟨rfl, qP.of (by rw [hI0]; exact fo) ((h9.snp fs sl).up (Nat.le_succ c))⟩, rfl⟩ (by decide) (by decide)
set_option maxRecDepth 100000 in
theorem m_restoreSnapshot_x2 (hR : lkM R N) (hA : aOK A) (h : rM I A c) {k : Nat} (hk : k < 2) (hx : A.sn k = none) : g_Ct E l mX7_restoreSnapshot 2 43 0 0 [.ref 79, .int (nI k)] (I, J, R, D, N, ex) (g_is (some (.int 0)) (up2 (up2 I 79 17 0) 79 17 2, J, R, D, N, ex)) := by
  refine g_Ct.of (by decide +kernel) (lb rfl) ?_
  have hN := hR.1
  have h9 := h.thr 0
  have z9 : up2 I 79 17 0 79 17 = 0 := up2_s ..
  have hsn := h9.2.2.1
  refine w_aload_n dX7_restoreSnapshot_0 rfl ?_
  refine w_iconst (v := 0) dX7_restoreSnapshot_1 (by decide) ?_
  refine x_puti (ci := 7) (k := 17) dX7_restoreSnapshot_2 rfl (by decide) (by decide) (by omega) fl_X7_73 rfl rfl ?_
  refine w_aload_n dX7_restoreSnapshot_5 rfl ?_
  refine w_iload_n dX7_restoreSnapshot_6 rfl ?_
  refine y_callV dX7_restoreSnapshot_7 lk_X7_400 [.int (nI k)] rfl (m_maySlot_t E l (by omega) z9 hk) (g_recv.obj (ci := 7) rfl (by decide) (show 79 < N by omega)) rfl ⟨⟨by decide, by decide⟩, by decide, by decide⟩ (lb rfl) ?_
  refine w_if_eq (tgt := 27) dX7_restoreSnapshot_10 (by decide) (fun c_10 => absurd c_10 ((by decide))) (fun c_10 => ?_)
  refine w_aload_n dX7_restoreSnapshot_13 rfl ?_
  refine w_aload_n dX7_restoreSnapshot_14 rfl ?_
  refine x_getr (ci := 7) (k := 4) (a := 84) dX7_restoreSnapshot_15 rfl (by decide) (by decide) (by omega) fl_X7_22 (Or.inr ⟨_, rfl⟩) hR.2.2.2.2.2.1 ?_
  refine w_iload_n dX7_restoreSnapshot_18 rfl ?_
  refine x_zald (j := k) dX7_restoreSnapshot_19 rfl (by omega) rfl (show k < 2 from hk) ?_
  rw [(hsn k hk).1, hx]
  refine w_iconst (v := 2) dX7_restoreSnapshot_20 (by decide) ?_
  refine y_callV dX7_restoreSnapshot_21 lk_X7_256 [.int 0, .int 2] rfl (m_may_f E l (by omega) z9 (by decide)) (g_recv.obj (ci := 7) rfl (by decide) (show 79 < N by omega)) rfl ⟨⟨by decide, by decide⟩, by decide, by decide⟩ (lb rfl) ?_
  refine w_if_ne (tgt := 29) dX7_restoreSnapshot_24 (by decide) (fun c_24 => absurd (rfl) c_24) (fun c_24 => ?_)
  refine w_iconst (v := 0) dX7_restoreSnapshot_27 (by decide) ?_
  refine w_iret dX7_restoreSnapshot_28 rfl rfl ⟨rfl, rfl⟩ (by decide) (by decide)
set_option maxRecDepth 100000 in
theorem m_restoreSnapshot (hR : lkM R N) (hA : aOK A) (h : rM I A c) {k : Nat} (hk : k < 2) {x : St} (hx : A.sn k = some x) : g_Ct E l mX7_restoreSnapshot 2 43 0 0 [.ref 79, .int (nI k)] (I, J, R, D, N, ex) (g_ri (fun y I' => y = nI x.hs.length ∧ qP I (A.up x []) c 0 I') J R D N ex) := by
  refine g_Ct.of (by decide +kernel) (lb rfl) ?_
  have hN := hR.1
  have h9 := h.thr 0
  have z9 : up2 I 79 17 0 79 17 = 0 := up2_s ..
  have hs := hA.2.2.1
  have l4 := hs.1
  have hsn := h9.2.2.1
  have e5 : (nI 172 * nI k : Int32) = nI (172 * k) := pk_mul 172 k
  have hxo : stOK A.nr x := hA.2.2.2.2.2.2 k hk x hx
  generalize hI0 : up2 I 79 17 0 = I0 at *
  have f2 : frD I0 (cpI I0 83 (172 * k) 80 0 172) := fun o ho => by funext j; exact cp_out (Or.inl ho)
  have r2 := h9.dat f2 (s := x) (slM.cp ((hsn k hk).2 x hx) hxo (fun j hj => cp_in hj))
  have f3 : frK2 (cpI I0 83 (172 * k) 80 0 172) (up2 (cpI I0 83 (172 * k) 80 0 172) 79 5 0) := ⟨fun o a b => by funext j; exact up2_n _ _ (by simp [a]), fun k a => up2_n _ _ (by simp [a])⟩
  have r3 := r2.his f3 (hi := []) ⟨Nat.zero_le _, up2_s .., fun i hi => absurd hi (Nat.not_lt_zero i)⟩
  have d0 : up2 (cpI I0 83 (172 * k) 80 0 172) 79 5 0 80 0 = nI x.hs.length := r3.1.1
  refine w_aload_n dX7_restoreSnapshot_0 rfl ?_
  refine w_iconst (v := 0) dX7_restoreSnapshot_1 (by decide) ?_
  refine x_puti (ci := 7) (k := 17) dX7_restoreSnapshot_2 rfl (by decide) (by decide) (by omega) fl_X7_73 rfl rfl ?_
  rw [hI0]
  refine w_aload_n dX7_restoreSnapshot_5 rfl ?_
  refine w_iload_n dX7_restoreSnapshot_6 rfl ?_
  refine y_callV dX7_restoreSnapshot_7 lk_X7_400 [.int (nI k)] rfl (m_maySlot_t E l (by omega) z9 hk) (g_recv.obj (ci := 7) rfl (by decide) (show 79 < N by omega)) rfl ⟨⟨by decide, by decide⟩, by decide, by decide⟩ (lb rfl) ?_
  refine w_if_eq (tgt := 27) dX7_restoreSnapshot_10 (by decide) (fun c_10 => absurd c_10 ((by decide))) (fun c_10 => ?_)
  refine w_aload_n dX7_restoreSnapshot_13 rfl ?_
  refine w_aload_n dX7_restoreSnapshot_14 rfl ?_
  refine x_getr (ci := 7) (k := 4) (a := 84) dX7_restoreSnapshot_15 rfl (by decide) (by decide) (by omega) fl_X7_22 (Or.inr ⟨_, rfl⟩) hR.2.2.2.2.2.1 ?_
  refine w_iload_n dX7_restoreSnapshot_18 rfl ?_
  refine x_zald (j := k) dX7_restoreSnapshot_19 rfl (by omega) rfl (show k < 2 from hk) ?_
  rw [(hsn k hk).1, hx]
  refine w_iconst (v := 2) dX7_restoreSnapshot_20 (by decide) ?_
  refine y_callV dX7_restoreSnapshot_21 lk_X7_256 [.int 1, .int 2] rfl (m_may_t E l (by omega) z9 2) (g_recv.obj (ci := 7) rfl (by decide) (show 79 < N by omega)) rfl ⟨⟨by decide, by decide⟩, by decide, by decide⟩ (lb rfl) ?_
  refine w_if_ne (tgt := 29) dX7_restoreSnapshot_24 (by decide) (fun c_24 => ?_) (fun c_24 => absurd c_24 ((by decide)))
  refine w_aload_n dX7_restoreSnapshot_29 rfl ?_
  refine x_getr (ci := 7) (k := 3) (a := 83) dX7_restoreSnapshot_30 rfl (by decide) (by decide) (by omega) fl_X7_19 (Or.inr ⟨_, rfl⟩) hR.2.2.2.2.1 ?_
  refine w_sipush (v := 172) dX7_restoreSnapshot_33 (by decide) ?_
  refine w_iload_n dX7_restoreSnapshot_36 rfl ?_
  refine w_imul dX7_restoreSnapshot_37 ?_
  rw [show (172 : Int32) * nI k = nI (172 * k) from e5]
  refine w_aload_n dX7_restoreSnapshot_38 rfl ?_
  refine x_getr (ci := 7) (k := 0) (a := 80) dX7_restoreSnapshot_39 rfl (by decide) (by decide) (by omega) fl_X7_7 (Or.inr ⟨_, rfl⟩) hR.2.1 ?_
  refine w_iconst (v := 0) dX7_restoreSnapshot_42 (by decide) ?_
  refine w_sipush (v := 172) dX7_restoreSnapshot_43 (by decide) ?_
  refine z_callS dX7_restoreSnapshot_46 lk_X7_252 [.ref 83, .int (nI (172 * k)), .ref 80, .int (nI 0), .int (nI 172)] rfl (m_copies E l (o1 := 83) (o2 := 80) (n1 := 344) (n2 := 172) rfl rfl (by omega) (by omega) (by decide) (by omega) (by decide) (by decide) (by decide)) rfl ⟨⟨by decide, by decide⟩, by decide, by decide⟩ (lb rfl) ?_
  refine w_aload_n dX7_restoreSnapshot_49 rfl ?_
  refine w_iconst (v := 0) dX7_restoreSnapshot_50 (by decide) ?_
  refine x_puti (ci := 7) (k := 5) dX7_restoreSnapshot_51 rfl (by decide) (by decide) (by omega) fl_X7_271 rfl rfl ?_
  refine w_aload_n dX7_restoreSnapshot_54 rfl ?_
  refine x_getr (ci := 7) (k := 0) (a := 80) dX7_restoreSnapshot_55 rfl (by decide) (by decide) (by omega) fl_X7_7 (Or.inr ⟨_, rfl⟩) hR.2.1 ?_
  refine w_iconst (v := 0) dX7_restoreSnapshot_58 (by decide) ?_
  refine x_iald (j := 0) dX7_restoreSnapshot_59 rfl (by omega) rfl (show 0 < 172 by decide) ?_
  rw [d0]
  refine w_iret dX7_restoreSnapshot_60 rfl rfl ⟨_, _, rfl, ⟨rfl, qP.of (by rw [hI0]; exact f2.o.trans f3.o) (r3.up (Nat.le_succ c))⟩, rfl⟩ (by decide) (by decide)
set_option maxRecDepth 100000 in
theorem m_checksum (hR : lkM R N) (hA : aOK A) (h : rM I A c) : g_Ct E l mX7_checksum 0 0 0 0 [.ref 79] (I, J, R, D, N, ex) (g_is (some (.long (ck4 A A.st.pl.length))) (up2 I 79 17 0, J, R, D, N, ex)) := by
  refine g_Ct.of (by decide +kernel) (lb rfl) ?_
  have hN := hR.1
  have h9 := h.thr 0
  have z9 : up2 I 79 17 0 79 17 = 0 := up2_s ..
  have hs := hA.2.2.1
  have l4 := hs.1
  have l40 := hs.2.2.2.1
  have h6 := hA.1
  have e4 : ckK A (4 * A.st.pl.length) = ck4 A A.st.pl.length := by unfold ckK; rw [show 4 * A.st.pl.length / 4 = A.st.pl.length by omega, show 4 * A.st.pl.length % 4 = 0 by omega]; rfl
  have l3 : ∀ f k : Nat, k + f = 4 * A.st.pl.length → g_Wp E l mX7_checksum { frames := 0, cells := 0, slots := 0, locals := 0 } (g_Fin E (g_is (some (.long (ck4 A A.st.pl.length))) (up2 I 79 17 0, J, R, D, N, ex)) 0 0) 0 0 162 [(3, .int (nI k)), (1, .long (ckK A k)), (0, .ref 79)] [] (up2 I 79 17 0, J, R, D, N, ex) := by
    intro f
    induction f with
    | zero =>
      intro k hk
      obtain rfl : k = 4 * A.st.pl.length := by omega
      refine w_iload_n dX7_checksum_162 rfl ?_
      refine w_iconst (v := 4) dX7_checksum_163 (by decide) ?_
      refine w_aload_n dX7_checksum_164 rfl ?_
      refine x_getr (ci := 7) (k := 0) (a := 80) dX7_checksum_165 rfl (by decide) (by decide) (by omega) fl_X7_7 (Or.inr ⟨_, rfl⟩) hR.2.1 ?_
      refine w_bipush (v := 11) dX7_checksum_168 (by decide) ?_
      refine x_iald (j := 11) dX7_checksum_170 rfl (by omega) rfl (show 11 < 172 by decide) ?_
      rw [show up2 I 79 17 0 80 11 = nI A.st.pl.length from h9.1.2.2.2.2.1]
      refine w_imul dX7_checksum_171 ?_
      rw [show (4 : Int32) * nI A.st.pl.length = nI (4 * A.st.pl.length) from by rw [← pk_mul]; rfl]
      refine w_icmp_ge (tgt := 198) dX7_checksum_172 (by decide) (fun c_172 => ?_) (fun c_172 => absurd ((nI_le (by omega) (by omega))) c_172)
      refine w_lload_n dX7_checksum_198 rfl ?_
      refine w_lret dX7_checksum_199 rfl ⟨by rw [e4], rfl⟩ (by decide) (by decide)
    | succ f ih =>
      intro k hk
      have hd := h9.1.2.2.2.2.2 (k / 4) (by omega) (k % 4) (by omega)
      rw [show 0 + 12 + 4 * (k / 4) + k % 4 = 12 + k by omega] at hd
      have t9 := ih (k + 1) (by omega)
      rw [ckK_s] at t9
      refine w_iload_n dX7_checksum_162 rfl ?_
      refine w_iconst (v := 4) dX7_checksum_163 (by decide) ?_
      refine w_aload_n dX7_checksum_164 rfl ?_
      refine x_getr (ci := 7) (k := 0) (a := 80) dX7_checksum_165 rfl (by decide) (by decide) (by omega) fl_X7_7 (Or.inr ⟨_, rfl⟩) hR.2.1 ?_
      refine w_bipush (v := 11) dX7_checksum_168 (by decide) ?_
      refine x_iald (j := 11) dX7_checksum_170 rfl (by omega) rfl (show 11 < 172 by decide) ?_
      rw [show up2 I 79 17 0 80 11 = nI A.st.pl.length from h9.1.2.2.2.2.1]
      refine w_imul dX7_checksum_171 ?_
      rw [show (4 : Int32) * nI A.st.pl.length = nI (4 * A.st.pl.length) from by rw [← pk_mul]; rfl]
      refine w_icmp_ge (tgt := 198) dX7_checksum_172 (by decide) (fun c_172 => absurd c_172 ((nI_ge (by omega) (by omega)))) (fun c_172 => ?_)
      refine w_ldc2 dX7_checksum_175 kl_X7_403 ?_
      refine w_lload_n dX7_checksum_178 rfl ?_
      refine w_lmul dX7_checksum_179 ?_
      refine w_aload_n dX7_checksum_180 rfl ?_
      refine x_getr (ci := 7) (k := 0) (a := 80) dX7_checksum_181 rfl (by decide) (by decide) (by omega) fl_X7_7 (Or.inr ⟨_, rfl⟩) hR.2.1 ?_
      refine w_bipush (v := 12) dX7_checksum_184 (by decide) ?_
      refine w_iload_n dX7_checksum_186 rfl ?_
      refine w_iadd dX7_checksum_187 ?_
      rw [show (12 : Int32) + nI k = nI (12 + k) from by rw [← nI_add]; rfl]
      refine x_iald (j := 12 + k) dX7_checksum_188 rfl (by omega) rfl (show 12 + k < 172 by omega) ?_
      rw [hd]
      refine w_i2l dX7_checksum_189 ?_
      refine w_ladd dX7_checksum_190 ?_
      refine w_lstore_n dX7_checksum_191 (by decide) rfl ?_
      refine w_iinc (v := nI (k + 1)) dX7_checksum_192 rfl (nI_inc _) (by decide) rfl ?_
      refine w_goto (tgt := 162) dX7_checksum_195 (by decide) ?_
      exact w_lv [3, 1, 0] t9
  have l2 : ∀ f k : Nat, k + f = A.st.hs.length → g_Wp E l mX7_checksum { frames := 0, cells := 0, slots := 0, locals := 0 } (g_Fin E (g_is (some (.long (ck4 A A.st.pl.length))) (up2 I 79 17 0, J, R, D, N, ex)) 0 0) 0 0 57 [(3, .int (nI k)), (1, .long (ck2 A k)), (0, .ref 79)] [] (up2 I 79 17 0, J, R, D, N, ex) := by
    intro f
    induction f with
    | zero =>
      intro k hk
      obtain rfl : k = A.st.hs.length := by omega
      refine w_iload_n dX7_checksum_57 rfl ?_
      refine w_aload_n dX7_checksum_58 rfl ?_
      refine x_getr (ci := 7) (k := 0) (a := 80) dX7_checksum_59 rfl (by decide) (by decide) (by omega) fl_X7_7 (Or.inr ⟨_, rfl⟩) hR.2.1 ?_
      refine w_iconst (v := 0) dX7_checksum_62 (by decide) ?_
      refine x_iald (j := 0) dX7_checksum_63 rfl (by omega) rfl (show 0 < 172 by decide) ?_
      rw [show up2 I 79 17 0 80 0 = nI A.st.hs.length from h9.1.1]
      refine w_icmp_ge (tgt := 103) dX7_checksum_64 (by decide) (fun c_64 => ?_) (fun c_64 => absurd ((nI_le (by omega) (by omega))) c_64)
      refine w_ldc2 dX7_checksum_103 kl_X7_403 ?_
      refine w_lload_n dX7_checksum_106 rfl ?_
      refine w_lmul dX7_checksum_107 ?_
      refine w_aload_n dX7_checksum_108 rfl ?_
      refine x_getr (ci := 7) (k := 0) (a := 80) dX7_checksum_109 rfl (by decide) (by decide) (by omega) fl_X7_7 (Or.inr ⟨_, rfl⟩) hR.2.1 ?_
      refine w_bipush (v := 9) dX7_checksum_112 (by decide) ?_
      refine x_iald (j := 9) dX7_checksum_114 rfl (by omega) rfl (show 9 < 172 by decide) ?_
      rw [show up2 I 79 17 0 80 9 = nI A.st.ps from h9.1.2.2.1]
      refine w_i2l dX7_checksum_115 ?_
      refine w_ladd dX7_checksum_116 ?_
      refine w_lstore_n dX7_checksum_117 (by decide) rfl ?_
      refine w_ldc2 dX7_checksum_118 kl_X7_403 ?_
      refine w_lload_n dX7_checksum_121 rfl ?_
      refine w_lmul dX7_checksum_122 ?_
      refine w_aload_n dX7_checksum_123 rfl ?_
      refine x_geti (ci := 7) (k := 16) dX7_checksum_124 rfl (by decide) (by decide) (by omega) fl_X7_225 rfl ?_
      rw [show up2 I 79 17 0 79 16 = nI A.ru.2.2 from h9.2.2.2.1.2.2]
      refine w_i2l dX7_checksum_127 ?_
      refine w_ladd dX7_checksum_128 ?_
      refine w_lstore_n dX7_checksum_129 (by decide) rfl ?_
      refine w_ldc2 dX7_checksum_130 kl_X7_403 ?_
      refine w_lload_n dX7_checksum_133 rfl ?_
      refine w_lmul dX7_checksum_134 ?_
      refine w_aload_n dX7_checksum_135 rfl ?_
      refine x_getr (ci := 7) (k := 0) (a := 80) dX7_checksum_136 rfl (by decide) (by decide) (by omega) fl_X7_7 (Or.inr ⟨_, rfl⟩) hR.2.1 ?_
      refine w_bipush (v := 10) dX7_checksum_139 (by decide) ?_
      refine x_iald (j := 10) dX7_checksum_141 rfl (by omega) rfl (show 10 < 172 by decide) ?_
      rw [show up2 I 79 17 0 80 10 = b2i A.st.mi from h9.1.2.2.2.1]
      refine w_i2l dX7_checksum_142 ?_
      refine w_ladd dX7_checksum_143 ?_
      refine w_lstore_n dX7_checksum_144 (by decide) rfl ?_
      refine w_ldc2 dX7_checksum_145 kl_X7_403 ?_
      refine w_lload_n dX7_checksum_148 rfl ?_
      refine w_lmul dX7_checksum_149 ?_
      refine w_aload_n dX7_checksum_150 rfl ?_
      refine x_getr (ci := 7) (k := 0) (a := 80) dX7_checksum_151 rfl (by decide) (by decide) (by omega) fl_X7_7 (Or.inr ⟨_, rfl⟩) hR.2.1 ?_
      refine w_bipush (v := 11) dX7_checksum_154 (by decide) ?_
      refine x_iald (j := 11) dX7_checksum_156 rfl (by omega) rfl (show 11 < 172 by decide) ?_
      rw [show up2 I 79 17 0 80 11 = nI A.st.pl.length from h9.1.2.2.2.2.1]
      refine w_i2l dX7_checksum_157 ?_
      refine w_ladd dX7_checksum_158 ?_
      refine w_lstore_n dX7_checksum_159 (by decide) rfl ?_
      refine w_iconst (v := 0) dX7_checksum_160 (by decide) ?_
      refine w_istore_n dX7_checksum_161 (by decide) rfl ?_
      exact w_lv [3, 1, 0] (l3 (4 * A.st.pl.length) 0 (by omega))
    | succ f ih =>
      intro k hk
      obtain ⟨d1, d2⟩ := h9.1.2.1 k (by omega)
      rw [show 0 + 1 + k = 1 + k by omega] at d1
      rw [show 0 + 5 + k = 5 + k by omega] at d2
      refine w_iload_n dX7_checksum_57 rfl ?_
      refine w_aload_n dX7_checksum_58 rfl ?_
      refine x_getr (ci := 7) (k := 0) (a := 80) dX7_checksum_59 rfl (by decide) (by decide) (by omega) fl_X7_7 (Or.inr ⟨_, rfl⟩) hR.2.1 ?_
      refine w_iconst (v := 0) dX7_checksum_62 (by decide) ?_
      refine x_iald (j := 0) dX7_checksum_63 rfl (by omega) rfl (show 0 < 172 by decide) ?_
      rw [show up2 I 79 17 0 80 0 = nI A.st.hs.length from h9.1.1]
      refine w_icmp_ge (tgt := 103) dX7_checksum_64 (by decide) (fun c_64 => absurd c_64 ((nI_ge (by omega) (by omega)))) (fun c_64 => ?_)
      refine w_ldc2 dX7_checksum_67 kl_X7_403 ?_
      refine w_ldc2 dX7_checksum_70 kl_X7_403 ?_
      refine w_lload_n dX7_checksum_73 rfl ?_
      refine w_lmul dX7_checksum_74 ?_
      refine w_aload_n dX7_checksum_75 rfl ?_
      refine x_getr (ci := 7) (k := 0) (a := 80) dX7_checksum_76 rfl (by decide) (by decide) (by omega) fl_X7_7 (Or.inr ⟨_, rfl⟩) hR.2.1 ?_
      refine w_iconst (v := 1) dX7_checksum_79 (by decide) ?_
      refine w_iload_n dX7_checksum_80 rfl ?_
      refine w_iadd dX7_checksum_81 ?_
      rw [show (1 : Int32) + nI k = nI (1 + k) from by rw [← nI_add]; rfl]
      refine x_iald (j := 1 + k) dX7_checksum_82 rfl (by omega) rfl (show 1 + k < 172 by omega) ?_
      rw [d1]
      refine w_i2l dX7_checksum_83 ?_
      refine w_ladd dX7_checksum_84 ?_
      refine w_lmul dX7_checksum_85 ?_
      refine w_aload_n dX7_checksum_86 rfl ?_
      refine x_getr (ci := 7) (k := 0) (a := 80) dX7_checksum_87 rfl (by decide) (by decide) (by omega) fl_X7_7 (Or.inr ⟨_, rfl⟩) hR.2.1 ?_
      refine w_iconst (v := 5) dX7_checksum_90 (by decide) ?_
      refine w_iload_n dX7_checksum_91 rfl ?_
      refine w_iadd dX7_checksum_92 ?_
      rw [show (5 : Int32) + nI k = nI (5 + k) from by rw [← nI_add]; rfl]
      refine x_iald (j := 5 + k) dX7_checksum_93 rfl (by omega) rfl (show 5 + k < 172 by omega) ?_
      rw [d2]
      refine w_i2l dX7_checksum_94 ?_
      refine w_ladd dX7_checksum_95 ?_
      refine w_lstore_n dX7_checksum_96 (by decide) rfl ?_
      refine w_iinc (v := nI (k + 1)) dX7_checksum_97 rfl (nI_inc _) (by decide) rfl ?_
      refine w_goto (tgt := 57) dX7_checksum_100 (by decide) ?_
      exact w_lv [3, 1, 0] (ih (k + 1) (by omega))
  have l1 : ∀ f k : Nat, k + f = A.nr → g_Wp E l mX7_checksum { frames := 0, cells := 0, slots := 0, locals := 0 } (g_Fin E (g_is (some (.long (ck4 A A.st.pl.length))) (up2 I 79 17 0, J, R, D, N, ex)) 0 0) 0 0 13 [(3, .int (nI k)), (1, .long (ck1 A k)), (0, .ref 79)] [] (up2 I 79 17 0, J, R, D, N, ex) := by
    intro f
    induction f with
    | zero =>
      intro k hk
      obtain rfl : k = A.nr := by omega
      refine w_iload_n dX7_checksum_13 rfl ?_
      refine w_aload_n dX7_checksum_14 rfl ?_
      refine x_geti (ci := 7) (k := 15) dX7_checksum_15 rfl (by decide) (by decide) (by omega) fl_X7_98 rfl ?_
      rw [h9.2.2.2.1.1]
      refine w_icmp_ge (tgt := 41) dX7_checksum_18 (by decide) (fun c_18 => ?_) (fun c_18 => absurd ((nI_le (by omega) (by omega))) c_18)
      refine w_ldc2 dX7_checksum_41 kl_X7_403 ?_
      refine w_lload_n dX7_checksum_44 rfl ?_
      refine w_lmul dX7_checksum_45 ?_
      refine w_aload_n dX7_checksum_46 rfl ?_
      refine x_getr (ci := 7) (k := 0) (a := 80) dX7_checksum_47 rfl (by decide) (by decide) (by omega) fl_X7_7 (Or.inr ⟨_, rfl⟩) hR.2.1 ?_
      refine w_iconst (v := 0) dX7_checksum_50 (by decide) ?_
      refine x_iald (j := 0) dX7_checksum_51 rfl (by omega) rfl (show 0 < 172 by decide) ?_
      rw [show up2 I 79 17 0 80 0 = nI A.st.hs.length from h9.1.1]
      refine w_i2l dX7_checksum_52 ?_
      refine w_ladd dX7_checksum_53 ?_
      refine w_lstore_n dX7_checksum_54 (by decide) rfl ?_
      refine w_iconst (v := 0) dX7_checksum_55 (by decide) ?_
      refine w_istore_n dX7_checksum_56 (by decide) rfl ?_
      exact w_lv [3, 1, 0] (l2 A.st.hs.length 0 (by omega))
    | succ f ih =>
      intro k hk
      obtain ⟨al, hm1, hm2⟩ := h9.2.2.2.1.2.1 k (by omega)
      refine w_iload_n dX7_checksum_13 rfl ?_
      refine w_aload_n dX7_checksum_14 rfl ?_
      refine x_geti (ci := 7) (k := 15) dX7_checksum_15 rfl (by decide) (by decide) (by omega) fl_X7_98 rfl ?_
      rw [h9.2.2.2.1.1]
      refine w_icmp_ge (tgt := 41) dX7_checksum_18 (by decide) (fun c_18 => absurd c_18 ((nI_ge (by omega) (by omega)))) (fun c_18 => ?_)
      refine w_ldc2 dX7_checksum_21 kl_X7_403 ?_
      refine w_lload_n dX7_checksum_24 rfl ?_
      refine w_lmul dX7_checksum_25 ?_
      refine w_aload_n dX7_checksum_26 rfl ?_
      refine x_getr (ci := 7) (k := 6) (a := 85) dX7_checksum_27 rfl (by decide) (by decide) (by omega) fl_X7_26 (Or.inr ⟨_, rfl⟩) hR.2.2.2.2.2.2.1 ?_
      refine w_iload_n dX7_checksum_30 rfl ?_
      refine x_iald (j := k) dX7_checksum_31 rfl (by omega) rfl (show k < 6 by omega) ?_
      rw [hm1.1]
      refine w_i2l dX7_checksum_32 ?_
      refine w_ladd dX7_checksum_33 ?_
      refine w_lstore_n dX7_checksum_34 (by decide) rfl ?_
      refine w_iinc (v := nI (k + 1)) dX7_checksum_35 rfl (nI_inc _) (by decide) rfl ?_
      refine w_goto (tgt := 13) dX7_checksum_38 (by decide) ?_
      exact w_lv [3, 1, 0] (ih (k + 1) (by omega))
  refine w_aload_n dX7_checksum_0 rfl ?_
  refine w_iconst (v := 0) dX7_checksum_1 (by decide) ?_
  refine x_puti (ci := 7) (k := 17) dX7_checksum_2 rfl (by decide) (by decide) (by omega) fl_X7_73 rfl rfl ?_
  refine w_aload_n dX7_checksum_5 rfl ?_
  refine x_geti (ci := 7) (k := 15) dX7_checksum_6 rfl (by decide) (by decide) (by omega) fl_X7_98 rfl ?_
  rw [h9.2.2.2.1.1]
  refine w_i2l dX7_checksum_9 ?_
  refine w_lstore_n dX7_checksum_10 (by decide) rfl ?_
  refine w_iconst (v := 0) dX7_checksum_11 (by decide) ?_
  refine w_istore_n dX7_checksum_12 (by decide) rfl ?_
  exact w_lv [3, 1, 0] (l1 A.nr 0 (by omega))
end MX
