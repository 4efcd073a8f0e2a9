/-! HeapGamesModel: changes, undo, snapshots, checksum -/
theorem del_get (s : St) (k h : Nat) : (s.del k).rl h = s.rl (if h < k then h else h + 1) ∧ (s.del k).sz h = s.sz (if h < k then h else h + 1) := by
  unfold St.rl St.sz St.del
  rw [List.getD_eq_getElem?_getD, List.getElem?_eraseIdx]
  split
  · rw [← List.getD_eq_getElem?_getD]; exact ⟨rfl, rfl⟩
  · rw [← List.getD_eq_getElem?_getD]; exact ⟨rfl, rfl⟩
theorem del_len {s : St} {k : Nat} (hk : k < s.hs.length) : (s.del k).hs.length = s.hs.length - 1 := by
  show (s.hs.eraseIdx k).length = _
  rw [List.length_eraseIdx, if_pos hk]
theorem app_get (s : St) (r z h : Nat) : (s.app r z).rl h = (if h = s.hs.length then r else s.rl h) ∧ (s.app r z).sz h = (if h = s.hs.length then z else s.sz h) := by
  unfold St.rl St.sz St.app
  rw [List.getD_eq_getElem?_getD, List.getD_eq_getElem?_getD]
  rcases Nat.lt_trichotomy h s.hs.length with q | q | q
  · rw [List.getElem?_append_left q, if_neg (by omega), if_neg (by omega)]; exact ⟨rfl, rfl⟩
  · subst q
    rw [List.getElem?_append_right (Nat.le_refl _)]
    simp
  · rw [List.getElem?_append_right (Nat.le_of_lt q), if_neg (by omega), if_neg (by omega), List.getElem?_eq_none (l := s.hs) (by omega), List.getElem?_eq_none (by rw [List.length_singleton]; omega)]
    exact ⟨rfl, rfl⟩
def ckK (A : AS) (k : Nat) : Int64 := ck5 A (k / 4) (ck4 A (k / 4)) (k % 4)
theorem ckK_s (A : AS) (k : Nat) : ckK A (k + 1) = 31 * ckK A k + (plA A (k / 4) (k % 4)).toInt64 := by
  unfold ckK
  rcases (show (k % 4 < 3 ∧ (k + 1) / 4 = k / 4 ∧ (k + 1) % 4 = k % 4 + 1) ∨ (k % 4 = 3 ∧ (k + 1) / 4 = k / 4 + 1 ∧ (k + 1) % 4 = 0) by omega) with ⟨h1, h2, h3⟩ | ⟨h1, h2, h3⟩
  · rw [h2, h3]; rfl
  · rw [h1, h2, h3]; rfl
section MW
variable (E : GE) (l : Launch)
variable {I : Nat → Nat → Int32} {J : Nat → Nat → Int64} {R : Nat → Nat → Option Nat} {D : Nat → Nat → UInt64} {N : Nat} {ex : Bool} {A : AS} {c : Nat}

set_option maxRecDepth 100000 in
theorem m_setSize_x1 (hR : lkM R N) (hA : aOK A) (h : rM I A c) {x : Int32} (hx : x < 0 ∨ ¬ x < nI A.st.hs.length) (z : Int32) : g_Ct E l mX7_setSize 2 46 0 0 [.ref 79, .int x, .int z] (I, J, R, D, N, ex) (g_is (some (.int 0)) (up2 (up2 I 79 17 0) 79 17 1, J, R, D, N, ex)) := by
  refine g_Ct.of (by decide +kernel) (lb rfl) ?_
  have hN := hR.1
  have h9 := h.thr 0
  have z9 : up2 I 79 17 0 79 17 = 0 := up2_s ..
  refine w_aload_n dX7_setSize_0 rfl ?_
  refine w_iconst (v := 0) dX7_setSize_1 (by decide) ?_
  refine x_puti (ci := 7) (k := 17) dX7_setSize_2 rfl (by decide) (by decide) (by omega) fl_X7_73 rfl rfl ?_
  refine w_aload_n dX7_setSize_5 rfl ?_
  refine w_iload_n dX7_setSize_6 rfl ?_
  refine y_callV dX7_setSize_7 lk_X7_378 [.int x] rfl (m_mayHeap_f E l hR z9 h9.1.1 hA.2.2.1.1 hx) (g_recv.obj (ci := 7) rfl (by decide) (show 79 < N by omega)) rfl ⟨⟨by decide, by decide⟩, by decide, by decide⟩ (lb rfl) ?_
  refine w_if_eq (tgt := 28) dX7_setSize_10 (by decide) (fun c_10 => ?_) (fun c_10 => absurd (rfl) c_10)
  refine w_iconst (v := 0) dX7_setSize_28 (by decide) ?_
  refine w_iret dX7_setSize_29 rfl rfl ⟨rfl, rfl⟩ (by decide) (by decide)
set_option maxRecDepth 100000 in
theorem m_setSize_x2 (hR : lkM R N) (hA : aOK A) (h : rM I A c) {k : Nat} (hk : k < A.st.hs.length) {z : Int32} (hz : z < 0 ∨ ¬ z < nI 16) : g_Ct E l mX7_setSize 2 46 0 0 [.ref 79, .int (nI k), .int z] (I, J, R, D, N, ex) (g_is (some (.int 0)) (up2 (up2 I 79 17 0) 79 17 2, J, R, D, N, ex)) := by
  refine g_Ct.of (by decide +kernel) (lb rfl) ?_
  have hN := hR.1
  have h9 := h.thr 0
  have z9 : up2 I 79 17 0 79 17 = 0 := up2_s ..
  refine w_aload_n dX7_setSize_0 rfl ?_
  refine w_iconst (v := 0) dX7_setSize_1 (by decide) ?_
  refine x_puti (ci := 7) (k := 17) dX7_setSize_2 rfl (by decide) (by decide) (by omega) fl_X7_73 rfl rfl ?_
  refine w_aload_n dX7_setSize_5 rfl ?_
  refine w_iload_n dX7_setSize_6 rfl ?_
  refine y_callV dX7_setSize_7 lk_X7_378 [.int (nI k)] rfl (m_mayHeap_t E l hR z9 h9.1.1 hA.2.2.1.1 hk) (g_recv.obj (ci := 7) rfl (by decide) (show 79 < N by omega)) rfl ⟨⟨by decide, by decide⟩, by decide, by decide⟩ (lb rfl) ?_
  refine w_if_eq (tgt := 28) dX7_setSize_10 (by decide) (fun c_10 => absurd c_10 ((by decide))) (fun c_10 => ?_)
  refine w_aload_n dX7_setSize_13 rfl ?_
  refine w_iload_n dX7_setSize_14 rfl ?_
  refine w_iconst (v := 0) dX7_setSize_15 (by decide) ?_
  refine w_bipush (v := 15) dX7_setSize_16 (by decide) ?_
  refine y_callS dX7_setSize_18 lk_X7_77 [.int z, .int 0, .int 15] rfl (m_within E l _ _ _ _) rfl ⟨⟨by decide, by decide⟩, by decide, by decide⟩ (lb rfl) ?_
  rw [decide_eq_false (show ¬ (¬ z < 0 ∧ ¬ (15 : Int32) < z) from wi_f (n := 16) (by omega) hz)]
  refine w_iconst (v := 2) dX7_setSize_21 (by decide) ?_
  refine y_callV dX7_setSize_22 lk_X7_256 [.int 0, .int 2] rfl (m_may_f E l (by omega) z9 (by decide)) (g_recv.obj (ci := 7) rfl (by decide) (show 79 < N by omega)) rfl ⟨⟨by decide, by decide⟩, by decide, by decide⟩ (lb rfl) ?_
  refine w_if_ne (tgt := 30) dX7_setSize_25 (by decide) (fun c_25 => absurd (rfl) c_25) (fun c_25 => ?_)
  refine w_iconst (v := 0) dX7_setSize_28 (by decide) ?_
  refine w_iret dX7_setSize_29 rfl rfl ⟨rfl, rfl⟩ (by decide) (by decide)
set_option maxRecDepth 100000 in
theorem m_setSize (hR : lkM R N) (hA : aOK A) (h : rM I A c) {k : Nat} (hk : k < A.st.hs.length) {z : Nat} (hz : z < 16) : g_Ct E l mX7_setSize 2 46 0 0 [.ref 79, .int (nI k), .int (nI z)] (I, J, R, D, N, ex) (g_ri (fun y I' => y = nI (A.st.sz k) ∧ qP I (A.rec (A.st.put k z)) c 0 I') J R D N ex) := by
  refine g_Ct.of (by decide +kernel) (lb rfl) ?_
  have hN := hR.1
  have h9 := h.thr 0
  have z9 : up2 I 79 17 0 79 17 = 0 := up2_s ..
  have hs := hA.2.2.1
  have l4 := hs.1
  refine w_aload_n dX7_setSize_0 rfl ?_
  refine w_iconst (v := 0) dX7_setSize_1 (by decide) ?_
  refine x_puti (ci := 7) (k := 17) dX7_setSize_2 rfl (by decide) (by decide) (by omega) fl_X7_73 rfl rfl ?_
  refine w_aload_n dX7_setSize_5 rfl ?_
  refine w_iload_n dX7_setSize_6 rfl ?_
  refine y_callV dX7_setSize_7 lk_X7_378 [.int (nI k)] rfl (m_mayHeap_t E l hR z9 h9.1.1 hA.2.2.1.1 hk) (g_recv.obj (ci := 7) rfl (by decide) (show 79 < N by omega)) rfl ⟨⟨by decide, by decide⟩, by decide, by decide⟩ (lb rfl) ?_
  refine w_if_eq (tgt := 28) dX7_setSize_10 (by decide) (fun c_10 => absurd c_10 ((by decide))) (fun c_10 => ?_)
  refine w_aload_n dX7_setSize_13 rfl ?_
  refine w_iload_n dX7_setSize_14 rfl ?_
  refine w_iconst (v := 0) dX7_setSize_15 (by decide) ?_
  refine w_bipush (v := 15) dX7_setSize_16 (by decide) ?_
  refine y_callS dX7_setSize_18 lk_X7_77 [.int (nI z), .int 0, .int 15] rfl (m_within E l _ _ _ _) rfl ⟨⟨by decide, by decide⟩, by decide, by decide⟩ (lb rfl) ?_
  rw [decide_eq_true (show ¬ nI z < 0 ∧ ¬ (15 : Int32) < nI z from wi_t (n := 16) hz (by omega))]
  refine w_iconst (v := 2) dX7_setSize_21 (by decide) ?_
  refine y_callV dX7_setSize_22 lk_X7_256 [.int 1, .int 2] rfl (m_may_t E l (by omega) z9 2) (g_recv.obj (ci := 7) rfl (by decide) (show 79 < N by omega)) rfl ⟨⟨by decide, by decide⟩, by decide, by decide⟩ (lb rfl) ?_
  refine w_if_ne (tgt := 30) dX7_setSize_25 (by decide) (fun c_25 => ?_) (fun c_25 => absurd c_25 ((by decide)))
  refine w_aload_n dX7_setSize_30 rfl ?_
  refine u_callV dX7_setSize_31 lk_X7_387 [] rfl (m_keeps E l hR hA h9) (g_recv.obj (ci := 7) rfl (by decide) (show 79 < N by omega)) rfl ⟨⟨by decide, by decide⟩, by decide, by decide⟩ (lb rfl) (fun I2 h_31 => ?_)
  obtain ⟨k1, k2⟩ := h_31
  have d5 := (k2.1.2.1 k hk).2
  rw [show 0 + 5 + k = 5 + k by omega] at d5
  have hd5 : I2 80 (5 + k) = nI (A.st.sz k) := d5
  refine w_aload_n dX7_setSize_34 rfl ?_
  refine x_getr (ci := 7) (k := 0) (a := 80) dX7_setSize_35 rfl (by decide) (by decide) (by omega) fl_X7_7 (Or.inr ⟨_, rfl⟩) hR.2.1 ?_
  refine w_iconst (v := 5) dX7_setSize_38 (by decide) ?_
  refine w_iload_n dX7_setSize_39 rfl ?_
  refine w_iadd dX7_setSize_40 ?_
  rw [show (5 : Int32) + nI k = nI (5 + k) from by rw [← nI_add]; rfl]
  refine x_iald (j := 5 + k) dX7_setSize_41 rfl (by omega) rfl (show 5 + k < 172 by omega) ?_
  rw [hd5]
  refine w_istore_n dX7_setSize_42 (by decide) rfl ?_
  refine w_aload_n dX7_setSize_43 rfl ?_
  refine x_getr (ci := 7) (k := 0) (a := 80) dX7_setSize_44 rfl (by decide) (by decide) (by omega) fl_X7_7 (Or.inr ⟨_, rfl⟩) hR.2.1 ?_
  refine w_iconst (v := 5) dX7_setSize_47 (by decide) ?_
  refine w_iload_n dX7_setSize_48 rfl ?_
  refine w_iadd dX7_setSize_49 ?_
  rw [show (5 : Int32) + nI k = nI (5 + k) from by rw [← nI_add]; rfl]
  refine w_iload_n dX7_setSize_50 rfl ?_
  refine x_iast (j := 5 + k) dX7_setSize_51 rfl (by omega) rfl (show 5 + k < 172 by omega) ?_
  refine w_iload_n dX7_setSize_52 rfl ?_
  have sl := k2.1.put l4 hk z
  rw [show 0 + 5 + k = 5 + k by omega] at sl
  have fd : frD I2 (up2 I2 80 (5 + k) (nI z)) := (fun o ho => by funext j; exact up2_n _ _ (by simp [ho]))
  refine w_iret dX7_setSize_53 rfl rfl ⟨_, _, rfl, ⟨rfl, qP.of (k1.o.trans fd.o) ((k2.dat fd sl).up (Nat.le_succ c))⟩, rfl⟩ (by decide) (by decide)
set_option maxRecDepth 100000 in
theorem m_setPasses_x (hR : lkM R N) (hA : aOK A) (h : rM I A c) {x : Int32} (hx : x < 0 ∨ ¬ x < nI 4) : g_Ct E l mX7_setPasses 2 46 0 0 [.ref 79, .int x] (I, J, R, D, N, ex) (g_is (some (.int 0)) (up2 (up2 I 79 17 0) 79 17 1, J, R, D, N, ex)) := by
  refine g_Ct.of (by decide +kernel) (lb rfl) ?_
  have hN := hR.1
  have h9 := h.thr 0
  have z9 : up2 I 79 17 0 79 17 = 0 := up2_s ..
  refine w_aload_n dX7_setPasses_0 rfl ?_
  refine w_iconst (v := 0) dX7_setPasses_1 (by decide) ?_
  refine x_puti (ci := 7) (k := 17) dX7_setPasses_2 rfl (by decide) (by decide) (by omega) fl_X7_73 rfl rfl ?_
  refine w_aload_n dX7_setPasses_5 rfl ?_
  refine w_iload_n dX7_setPasses_6 rfl ?_
  refine w_iconst (v := 0) dX7_setPasses_7 (by decide) ?_
  refine w_iconst (v := 3) dX7_setPasses_8 (by decide) ?_
  refine y_callS dX7_setPasses_9 lk_X7_77 [.int x, .int 0, .int 3] rfl (m_within E l _ _ _ _) rfl ⟨⟨by decide, by decide⟩, by decide, by decide⟩ (lb rfl) ?_
  rw [decide_eq_false (show ¬ (¬ x < 0 ∧ ¬ (3 : Int32) < x) from wi_f (n := 4) (by omega) hx)]
  refine w_iconst (v := 1) dX7_setPasses_12 (by decide) ?_
  refine y_callV dX7_setPasses_13 lk_X7_256 [.int 0, .int 1] rfl (m_may_f E l (by omega) z9 (by decide)) (g_recv.obj (ci := 7) rfl (by decide) (show 79 < N by omega)) rfl ⟨⟨by decide, by decide⟩, by decide, by decide⟩ (lb rfl) ?_
  refine w_if_ne (tgt := 21) dX7_setPasses_16 (by decide) (fun c_16 => absurd (rfl) c_16) (fun c_16 => ?_)
  refine w_iconst (v := 0) dX7_setPasses_19 (by decide) ?_
  refine w_iret dX7_setPasses_20 rfl rfl ⟨rfl, rfl⟩ (by decide) (by decide)
set_option maxRecDepth 100000 in
theorem m_setPasses (hR : lkM R N) (hA : aOK A) (h : rM I A c) {p : Nat} (hp : p < 4) : g_Ct E l mX7_setPasses 2 46 0 0 [.ref 79, .int (nI p)] (I, J, R, D, N, ex) (g_ri (fun y I' => y = nI A.st.ps ∧ qP I (A.rec (A.st.pas p)) c 0 I') J R D N ex) := by
  refine g_Ct.of (by decide +kernel) (lb rfl) ?_
  have hN := hR.1
  have h9 := h.thr 0
  have z9 : up2 I 79 17 0 79 17 = 0 := up2_s ..
  have hs := hA.2.2.1
  have l4 := hs.1
  refine w_aload_n dX7_setPasses_0 rfl ?_
  refine w_iconst (v := 0) dX7_setPasses_1 (by decide) ?_
  refine x_puti (ci := 7) (k := 17) dX7_setPasses_2 rfl (by decide) (by decide) (by omega) fl_X7_73 rfl rfl ?_
  refine w_aload_n dX7_setPasses_5 rfl ?_
  refine w_iload_n dX7_setPasses_6 rfl ?_
  refine w_iconst (v := 0) dX7_setPasses_7 (by decide) ?_
  refine w_iconst (v := 3) dX7_setPasses_8 (by decide) ?_
  refine y_callS dX7_setPasses_9 lk_X7_77 [.int (nI p), .int 0, .int 3] rfl (m_within E l _ _ _ _) rfl ⟨⟨by decide, by decide⟩, by decide, by decide⟩ (lb rfl) ?_
  rw [decide_eq_true (show ¬ nI p < 0 ∧ ¬ (3 : Int32) < nI p from wi_t (n := 4) hp (by omega))]
  refine w_iconst (v := 1) dX7_setPasses_12 (by decide) ?_
  refine y_callV dX7_setPasses_13 lk_X7_256 [.int 1, .int 1] rfl (m_may_t E l (by omega) z9 1) (g_recv.obj (ci := 7) rfl (by decide) (show 79 < N by omega)) rfl ⟨⟨by decide, by decide⟩, by decide, by decide⟩ (lb rfl) ?_
  refine w_if_ne (tgt := 21) dX7_setPasses_16 (by decide) (fun c_16 => ?_) (fun c_16 => absurd c_16 ((by decide)))
  refine w_aload_n dX7_setPasses_21 rfl ?_
  refine u_callV dX7_setPasses_22 lk_X7_387 [] rfl (m_keeps E l hR hA h9) (g_recv.obj (ci := 7) rfl (by decide) (show 79 < N by omega)) rfl ⟨⟨by decide, by decide⟩, by decide, by decide⟩ (lb rfl) (fun I2 h_22 => ?_)
  obtain ⟨k1, k2⟩ := h_22
  have hd9 : I2 80 9 = nI A.st.ps := k2.1.2.2.1
  refine w_aload_n dX7_setPasses_25 rfl ?_
  refine x_getr (ci := 7) (k := 0) (a := 80) dX7_setPasses_26 rfl (by decide) (by decide) (by omega) fl_X7_7 (Or.inr ⟨_, rfl⟩) hR.2.1 ?_
  refine w_bipush (v := 9) dX7_setPasses_29 (by decide) ?_
  refine x_iald (j := 9) dX7_setPasses_31 rfl (by omega) rfl (show 9 < 172 by decide) ?_
  rw [hd9]
  refine w_istore_n dX7_setPasses_32 (by decide) rfl ?_
  refine w_aload_n dX7_setPasses_33 rfl ?_
  refine x_getr (ci := 7) (k := 0) (a := 80) dX7_setPasses_34 rfl (by decide) (by decide) (by omega) fl_X7_7 (Or.inr ⟨_, rfl⟩) hR.2.1 ?_
  refine w_bipush (v := 9) dX7_setPasses_37 (by decide) ?_
  refine w_iload_n dX7_setPasses_39 rfl ?_
  refine x_iast (j := 9) dX7_setPasses_40 rfl (by omega) rfl (show 9 < 172 by decide) ?_
  refine w_iload_n dX7_setPasses_41 rfl ?_
  have sl := k2.1.pas l4 p
  have fd : frD I2 (up2 I2 80 9 (nI p)) := (fun o ho => by funext j; exact up2_n _ _ (by simp [ho]))
  refine w_iret dX7_setPasses_42 rfl rfl ⟨_, _, rfl, ⟨rfl, qP.of (k1.o.trans fd.o) ((k2.dat fd sl).up (Nat.le_succ c))⟩, rfl⟩ (by decide) (by decide)
set_option maxRecDepth 100000 in
theorem m_setMisere (hR : lkM R N) (hA : aOK A) (h : rM I A c) (b : Bool) : g_Ct E l mX7_setMisere 2 46 0 0 [.ref 79, .int (b2i b)] (I, J, R, D, N, ex) (g_ri (fun y I' => y = b2i A.st.mi ∧ qP I (A.rec (A.st.mis b)) c 0 I') J R D N ex) := by
  refine g_Ct.of (by decide +kernel) (lb rfl) ?_
  have hN := hR.1
  have h9 := h.thr 0
  have z9 : up2 I 79 17 0 79 17 = 0 := up2_s ..
  have hs := hA.2.2.1
  have l4 := hs.1
  have e9 : ∀ q : Bool, b2i q = 1 ↔ q = true := by decide
  have s26 : ∀ I2, frK2 (up2 I 79 17 0) I2 → rM I2 (A.rec A.st) c → g_Wp E l mX7_setMisere { frames := 2, cells := 0, slots := 0, locals := 46 } (g_Fin E (g_ri (fun y I' => y = b2i A.st.mi ∧ qP I (A.rec (A.st.mis b)) c 0 I') J R D N ex) 0 0) 0 0 26 [(2, .int (b2i A.st.mi)), (0, .ref 79), (1, .int (b2i b))] [] (I2, J, R, D, N, ex) := by
    intro I2 k1 k2
    have sl := k2.1.mis l4 b
    have fd : frD I2 (up2 I2 80 10 (b2i b)) := (fun o ho => by funext j; exact up2_n _ _ (by simp [ho]))
    have hq := qP.of (k1.o.trans fd.o) ((k2.dat fd sl).up (Nat.le_succ c))
    cases b with
    | true =>
      refine w_aload_n dX7_setMisere_26 rfl ?_
      refine x_getr (ci := 7) (k := 0) (a := 80) dX7_setMisere_27 rfl (by decide) (by decide) (by omega) fl_X7_7 (Or.inr ⟨_, rfl⟩) hR.2.1 ?_
      refine w_bipush (v := 10) dX7_setMisere_30 (by decide) ?_
      refine w_iload_n dX7_setMisere_32 rfl ?_
      refine w_if_eq (tgt := 40) dX7_setMisere_33 (by decide) (fun c_33 => absurd c_33 ((by decide))) (fun c_33 => ?_)
      refine w_iconst (v := 1) dX7_setMisere_36 (by decide) ?_
      refine w_goto (tgt := 41) dX7_setMisere_37 (by decide) ?_
      refine x_iast (j := 10) dX7_setMisere_41 rfl (by omega) rfl (show 10 < 172 by decide) ?_
      refine w_iload_n dX7_setMisere_42 rfl ?_
      refine w_iret dX7_setMisere_43 rfl (nz_b _) ⟨_, _, rfl, ⟨rfl, hq⟩, rfl⟩ (by decide) (by decide)
    | false =>
      refine w_aload_n dX7_setMisere_26 rfl ?_
      refine x_getr (ci := 7) (k := 0) (a := 80) dX7_setMisere_27 rfl (by decide) (by decide) (by omega) fl_X7_7 (Or.inr ⟨_, rfl⟩) hR.2.1 ?_
      refine w_bipush (v := 10) dX7_setMisere_30 (by decide) ?_
      refine w_iload_n dX7_setMisere_32 rfl ?_
      refine w_if_eq (tgt := 40) dX7_setMisere_33 (by decide) (fun c_33 => ?_) (fun c_33 => absurd (rfl) c_33)
      refine w_iconst (v := 0) dX7_setMisere_40 (by decide) ?_
      refine x_iast (j := 10) dX7_setMisere_41 rfl (by omega) rfl (show 10 < 172 by decide) ?_
      refine w_iload_n dX7_setMisere_42 rfl ?_
      refine w_iret dX7_setMisere_43 rfl (nz_b _) ⟨_, _, rfl, ⟨rfl, hq⟩, rfl⟩ (by decide) (by decide)
  refine w_aload_n dX7_setMisere_0 rfl ?_
  refine w_iconst (v := 0) dX7_setMisere_1 (by decide) ?_
  refine x_puti (ci := 7) (k := 17) dX7_setMisere_2 rfl (by decide) (by decide) (by omega) fl_X7_73 rfl rfl ?_
  refine w_aload_n dX7_setMisere_5 rfl ?_
  refine u_callV dX7_setMisere_6 lk_X7_387 [] rfl (m_keeps E l hR hA h9) (g_recv.obj (ci := 7) rfl (by decide) (show 79 < N by omega)) rfl ⟨⟨by decide, by decide⟩, by decide, by decide⟩ (lb rfl) (fun I2 h_6 => ?_)
  obtain ⟨k1, k2⟩ := h_6
  have hd : I2 80 10 = b2i A.st.mi := k2.1.2.2.2.1
  have t9 := s26 I2 k1 k2
  refine w_aload_n dX7_setMisere_9 rfl ?_
  refine x_getr (ci := 7) (k := 0) (a := 80) dX7_setMisere_10 rfl (by decide) (by decide) (by omega) fl_X7_7 (Or.inr ⟨_, rfl⟩) hR.2.1 ?_
  refine w_bipush (v := 10) dX7_setMisere_13 (by decide) ?_
  refine x_iald (j := 10) dX7_setMisere_15 rfl (by omega) rfl (show 10 < 172 by decide) ?_
  rw [hd]
  refine w_iconst (v := 1) dX7_setMisere_16 (by decide) ?_
  refine w_icmp_ne (tgt := 24) dX7_setMisere_17 (by decide) (fun c_17 => ?_) (fun c_17 => ?_)
  · refine w_iconst (v := 0) dX7_setMisere_24 (by decide) ?_
    refine w_st (show _ = [.int (b2i A.st.mi)] from by rw [show A.st.mi = false from by cases q : A.st.mi; rfl; exact absurd ((e9 _).mpr q) c_17]; rfl) ?_
    refine w_istore_n dX7_setMisere_25 (by decide) rfl ?_
    exact w_lv [2, 0, 1] t9
  · refine w_iconst (v := 1) dX7_setMisere_20 (by decide) ?_
    refine w_st (show _ = [.int (b2i A.st.mi)] from by rw [(e9 _).mp c_17]; rfl) ?_
    refine w_goto (tgt := 25) dX7_setMisere_21 (by decide) ?_
    refine w_istore_n dX7_setMisere_25 (by decide) rfl ?_
    exact w_lv [2, 0, 1] t9
set_option maxRecDepth 100000 in
theorem m_addHeap_x1 (hR : lkM R N) (hA : aOK A) (h : rM I A c) {x : Int32} (hx : x < 0 ∨ ¬ x < nI A.nr) (z : Int32) : g_Ct E l mX7_addHeap 2 46 0 0 [.ref 79, .int x, .int z] (I, J, R, D, N, ex) (g_is (some (.int 0)) (up2 (up2 I 79 17 0) 79 17 1, J, R, D, N, ex)) := by
  refine g_Ct.of (by decide +kernel) (lb rfl) ?_
  have hN := hR.1
  have h9 := h.thr 0
  have z9 : up2 I 79 17 0 79 17 = 0 := up2_s ..
  refine w_aload_n dX7_addHeap_0 rfl ?_
  refine w_iconst (v := 0) dX7_addHeap_1 (by decide) ?_
  refine x_puti (ci := 7) (k := 17) dX7_addHeap_2 rfl (by decide) (by decide) (by omega) fl_X7_73 rfl rfl ?_
  refine w_aload_n dX7_addHeap_5 rfl ?_
  refine w_iload_n dX7_addHeap_6 rfl ?_
  refine y_callV dX7_addHeap_7 lk_X7_366 [.int x] rfl (m_mayRule_f E l (by omega) z9 h9.2.2.2.1.1 hA.1 hx) (g_recv.obj (ci := 7) rfl (by decide) (show 79 < N by omega)) rfl ⟨⟨by decide, by decide⟩, by decide, by decide⟩ (lb rfl) ?_
  refine w_if_eq (tgt := 51) dX7_addHeap_10 (by decide) (fun c_10 => ?_) (fun c_10 => absurd (rfl) c_10)
  refine w_iconst (v := 0) dX7_addHeap_51 (by decide) ?_
  refine w_iret dX7_addHeap_52 rfl rfl ⟨rfl, rfl⟩ (by decide) (by decide)
set_option maxRecDepth 100000 in
theorem m_addHeap_x2 (hR : lkM R N) (hA : aOK A) (h : rM I A c) {r : Nat} (hr : r < A.nr) {z : Int32} (hz : z < 0 ∨ ¬ z < nI 16) : g_Ct E l mX7_addHeap 2 46 0 0 [.ref 79, .int (nI r), .int z] (I, J, R, D, N, ex) (g_is (some (.int 0)) (up2 (up2 I 79 17 0) 79 17 2, J, R, D, N, ex)) := by
  refine g_Ct.of (by decide +kernel) (lb rfl) ?_
  have hN := hR.1
  have h9 := h.thr 0
  have z9 : up2 I 79 17 0 79 17 = 0 := up2_s ..
  refine w_aload_n dX7_addHeap_0 rfl ?_
  refine w_iconst (v := 0) dX7_addHeap_1 (by decide) ?_
  refine x_puti (ci := 7) (k := 17) dX7_addHeap_2 rfl (by decide) (by decide) (by omega) fl_X7_73 rfl rfl ?_
  refine w_aload_n dX7_addHeap_5 rfl ?_
  refine w_iload_n dX7_addHeap_6 rfl ?_
  refine y_callV dX7_addHeap_7 lk_X7_366 [.int (nI r)] rfl (m_mayRule_t E l (by omega) z9 h9.2.2.2.1.1 hA.1 hr) (g_recv.obj (ci := 7) rfl (by decide) (show 79 < N by omega)) rfl ⟨⟨by decide, by decide⟩, by decide, by decide⟩ (lb rfl) ?_
  refine w_if_eq (tgt := 51) dX7_addHeap_10 (by decide) (fun c_10 => absurd c_10 ((by decide))) (fun c_10 => ?_)
  refine w_aload_n dX7_addHeap_13 rfl ?_
  refine w_iload_n dX7_addHeap_14 rfl ?_
  refine w_iconst (v := 0) dX7_addHeap_15 (by decide) ?_
  refine w_bipush (v := 15) dX7_addHeap_16 (by decide) ?_
  refine y_callS dX7_addHeap_18 lk_X7_77 [.int z, .int 0, .int 15] rfl (m_within E l _ _ _ _) rfl ⟨⟨by decide, by decide⟩, by decide, by decide⟩ (lb rfl) ?_
  rw [decide_eq_false (show ¬ (¬ z < 0 ∧ ¬ (15 : Int32) < z) from wi_f (n := 16) (by omega) hz)]
  refine w_iconst (v := 2) dX7_addHeap_21 (by decide) ?_
  refine y_callV dX7_addHeap_22 lk_X7_256 [.int 0, .int 2] rfl (m_may_f E l (by omega) z9 (by decide)) (g_recv.obj (ci := 7) rfl (by decide) (show 79 < N by omega)) rfl ⟨⟨by decide, by decide⟩, by decide, by decide⟩ (lb rfl) ?_
  refine w_if_eq (tgt := 51) dX7_addHeap_25 (by decide) (fun c_25 => ?_) (fun c_25 => absurd (rfl) c_25)
  refine w_iconst (v := 0) dX7_addHeap_51 (by decide) ?_
  refine w_iret dX7_addHeap_52 rfl rfl ⟨rfl, rfl⟩ (by decide) (by decide)
set_option maxRecDepth 100000 in
theorem m_addHeap_x3 (hR : lkM R N) (hA : aOK A) (h : rM I A c) {r z : Nat} (hr : r < A.nr) (hz : z < 16) (hs : A.st.hs.length = 4) : g_Ct E l mX7_addHeap 2 46 0 0 [.ref 79, .int (nI r), .int (nI z)] (I, J, R, D, N, ex) (g_is (some (.int 0)) (up2 (up2 I 79 17 0) 79 17 3, J, R, D, N, ex)) := by
  refine g_Ct.of (by decide +kernel) (lb rfl) ?_
  have hN := hR.1
  have h9 := h.thr 0
  have z9 : up2 I 79 17 0 79 17 = 0 := up2_s ..
  refine w_aload_n dX7_addHeap_0 rfl ?_
  refine w_iconst (v := 0) dX7_addHeap_1 (by decide) ?_
  refine x_puti (ci := 7) (k := 17) dX7_addHeap_2 rfl (by decide) (by decide) (by omega) fl_X7_73 rfl rfl ?_
  refine w_aload_n dX7_addHeap_5 rfl ?_
  refine w_iload_n dX7_addHeap_6 rfl ?_
  refine y_callV dX7_addHeap_7 lk_X7_366 [.int (nI r)] rfl (m_mayRule_t E l (by omega) z9 h9.2.2.2.1.1 hA.1 hr) (g_recv.obj (ci := 7) rfl (by decide) (show 79 < N by omega)) rfl ⟨⟨by decide, by decide⟩, by decide, by decide⟩ (lb rfl) ?_
  refine w_if_eq (tgt := 51) dX7_addHeap_10 (by decide) (fun c_10 => absurd c_10 ((by decide))) (fun c_10 => ?_)
  refine w_aload_n dX7_addHeap_13 rfl ?_
  refine w_iload_n dX7_addHeap_14 rfl ?_
  refine w_iconst (v := 0) dX7_addHeap_15 (by decide) ?_
  refine w_bipush (v := 15) dX7_addHeap_16 (by decide) ?_
  refine y_callS dX7_addHeap_18 lk_X7_77 [.int (nI z), .int 0, .int 15] rfl (m_within E l _ _ _ _) rfl ⟨⟨by decide, by decide⟩, by decide, by decide⟩ (lb rfl) ?_
  rw [decide_eq_true (show ¬ nI z < 0 ∧ ¬ (15 : Int32) < nI z from wi_t (n := 16) hz (by omega))]
  refine w_iconst (v := 2) dX7_addHeap_21 (by decide) ?_
  refine y_callV dX7_addHeap_22 lk_X7_256 [.int 1, .int 2] rfl (m_may_t E l (by omega) z9 2) (g_recv.obj (ci := 7) rfl (by decide) (show 79 < N by omega)) rfl ⟨⟨by decide, by decide⟩, by decide, by decide⟩ (lb rfl) ?_
  refine w_if_eq (tgt := 51) dX7_addHeap_25 (by decide) (fun c_25 => absurd c_25 ((by decide))) (fun c_25 => ?_)
  refine w_aload_n dX7_addHeap_28 rfl ?_
  refine w_aload_n dX7_addHeap_29 rfl ?_
  refine x_getr (ci := 7) (k := 0) (a := 80) dX7_addHeap_30 rfl (by decide) (by decide) (by omega) fl_X7_7 (Or.inr ⟨_, rfl⟩) hR.2.1 ?_
  refine w_iconst (v := 0) dX7_addHeap_33 (by decide) ?_
  refine x_iald (j := 0) dX7_addHeap_34 rfl (by omega) rfl (show 0 < 172 by decide) ?_
  rw [show up2 I 79 17 0 80 0 = nI A.st.hs.length from h9.1.1, hs]
  refine w_iconst (v := 4) dX7_addHeap_35 (by decide) ?_
  refine w_icmp_ge (tgt := 43) dX7_addHeap_36 (by decide) (fun c_36 => ?_) (fun c_36 => absurd ((by decide)) c_36)
  refine w_iconst (v := 0) dX7_addHeap_43 (by decide) ?_
  refine w_iconst (v := 3) dX7_addHeap_44 (by decide) ?_
  refine y_callV dX7_addHeap_45 lk_X7_256 [.int 0, .int 3] rfl (m_may_f E l (by omega) z9 (by decide)) (g_recv.obj (ci := 7) rfl (by decide) (show 79 < N by omega)) rfl ⟨⟨by decide, by decide⟩, by decide, by decide⟩ (lb rfl) ?_
  refine w_if_ne (tgt := 53) dX7_addHeap_48 (by decide) (fun c_48 => absurd (rfl) c_48) (fun c_48 => ?_)
  refine w_iconst (v := 0) dX7_addHeap_51 (by decide) ?_
  refine w_iret dX7_addHeap_52 rfl rfl ⟨rfl, rfl⟩ (by decide) (by decide)
set_option maxRecDepth 100000 in
theorem m_addHeap (hR : lkM R N) (hA : aOK A) (h : rM I A c) {r z : Nat} (hr : r < A.nr) (hz : z < 16) (h4 : A.st.hs.length < 4) : g_Ct E l mX7_addHeap 2 46 0 0 [.ref 79, .int (nI r), .int (nI z)] (I, J, R, D, N, ex) (g_ri (fun y I' => y = nI A.st.hs.length ∧ qP I (A.rec (A.st.app r z)) c 0 I') J R D N ex) := by
  refine g_Ct.of (by decide +kernel) (lb rfl) ?_
  have hN := hR.1
  have h9 := h.thr 0
  have z9 : up2 I 79 17 0 79 17 = 0 := up2_s ..
  have hs := hA.2.2.1
  have l4 := hs.1
  refine w_aload_n dX7_addHeap_0 rfl ?_
  refine w_iconst (v := 0) dX7_addHeap_1 (by decide) ?_
  refine x_puti (ci := 7) (k := 17) dX7_addHeap_2 rfl (by decide) (by decide) (by omega) fl_X7_73 rfl rfl ?_
  refine w_aload_n dX7_addHeap_5 rfl ?_
  refine w_iload_n dX7_addHeap_6 rfl ?_
  refine y_callV dX7_addHeap_7 lk_X7_366 [.int (nI r)] rfl (m_mayRule_t E l (by omega) z9 h9.2.2.2.1.1 hA.1 hr) (g_recv.obj (ci := 7) rfl (by decide) (show 79 < N by omega)) rfl ⟨⟨by decide, by decide⟩, by decide, by decide⟩ (lb rfl) ?_
  refine w_if_eq (tgt := 51) dX7_addHeap_10 (by decide) (fun c_10 => absurd c_10 ((by decide))) (fun c_10 => ?_)
  refine w_aload_n dX7_addHeap_13 rfl ?_
  refine w_iload_n dX7_addHeap_14 rfl ?_
  refine w_iconst (v := 0) dX7_addHeap_15 (by decide) ?_
  refine w_bipush (v := 15) dX7_addHeap_16 (by decide) ?_
  refine y_callS dX7_addHeap_18 lk_X7_77 [.int (nI z), .int 0, .int 15] rfl (m_within E l _ _ _ _) rfl ⟨⟨by decide, by decide⟩, by decide, by decide⟩ (lb rfl) ?_
  rw [decide_eq_true (show ¬ nI z < 0 ∧ ¬ (15 : Int32) < nI z from wi_t (n := 16) hz (by omega))]
  refine w_iconst (v := 2) dX7_addHeap_21 (by decide) ?_
  refine y_callV dX7_addHeap_22 lk_X7_256 [.int 1, .int 2] rfl (m_may_t E l (by omega) z9 2) (g_recv.obj (ci := 7) rfl (by decide) (show 79 < N by omega)) rfl ⟨⟨by decide, by decide⟩, by decide, by decide⟩ (lb rfl) ?_
  refine w_if_eq (tgt := 51) dX7_addHeap_25 (by decide) (fun c_25 => absurd c_25 ((by decide))) (fun c_25 => ?_)
  refine w_aload_n dX7_addHeap_28 rfl ?_
  refine w_aload_n dX7_addHeap_29 rfl ?_
  refine x_getr (ci := 7) (k := 0) (a := 80) dX7_addHeap_30 rfl (by decide) (by decide) (by omega) fl_X7_7 (Or.inr ⟨_, rfl⟩) hR.2.1 ?_
  refine w_iconst (v := 0) dX7_addHeap_33 (by decide) ?_
  refine x_iald (j := 0) dX7_addHeap_34 rfl (by omega) rfl (show 0 < 172 by decide) ?_
  rw [show up2 I 79 17 0 80 0 = nI A.st.hs.length from h9.1.1]
  refine w_iconst (v := 4) dX7_addHeap_35 (by decide) ?_
  refine w_icmp_ge (tgt := 43) dX7_addHeap_36 (by decide) (fun c_36 => absurd c_36 ((nI_ge (a := A.st.hs.length) (b := 4) (by omega) (by omega)))) (fun c_36 => ?_)
  refine w_iconst (v := 1) dX7_addHeap_39 (by decide) ?_
  refine w_goto (tgt := 44) dX7_addHeap_40 (by decide) ?_
  refine w_iconst (v := 3) dX7_addHeap_44 (by decide) ?_
  refine y_callV dX7_addHeap_45 lk_X7_256 [.int 1, .int 3] rfl (m_may_t E l (by omega) z9 3) (g_recv.obj (ci := 7) rfl (by decide) (show 79 < N by omega)) rfl ⟨⟨by decide, by decide⟩, by decide, by decide⟩ (lb rfl) ?_
  refine w_if_ne (tgt := 53) dX7_addHeap_48 (by decide) (fun c_48 => ?_) (fun c_48 => absurd c_48 ((by decide)))
  refine w_aload_n dX7_addHeap_53 rfl ?_
  refine u_callV dX7_addHeap_54 lk_X7_387 [] rfl (m_keeps E l hR hA h9) (g_recv.obj (ci := 7) rfl (by decide) (show 79 < N by omega)) rfl ⟨⟨by decide, by decide⟩, by decide, by decide⟩ (lb rfl) (fun I2 h_54 => ?_)
  obtain ⟨k1, k2⟩ := h_54
  have d0 : I2 80 0 = nI A.st.hs.length := k2.1.1
  generalize hln : A.st.hs.length = ln at *
  refine w_aload_n dX7_addHeap_57 rfl ?_
  refine x_getr (ci := 7) (k := 0) (a := 80) dX7_addHeap_58 rfl (by decide) (by decide) (by omega) fl_X7_7 (Or.inr ⟨_, rfl⟩) hR.2.1 ?_
  refine w_iconst (v := 1) dX7_addHeap_61 (by decide) ?_
  refine w_aload_n dX7_addHeap_62 rfl ?_
  refine x_getr (ci := 7) (k := 0) (a := 80) dX7_addHeap_63 rfl (by decide) (by decide) (by omega) fl_X7_7 (Or.inr ⟨_, rfl⟩) hR.2.1 ?_
  refine w_iconst (v := 0) dX7_addHeap_66 (by decide) ?_
  refine x_iald (j := 0) dX7_addHeap_67 rfl (by omega) rfl (show 0 < 172 by decide) ?_
  rw [d0]
  refine w_iadd dX7_addHeap_68 ?_
  rw [show (1 : Int32) + nI ln = nI (1 + ln) from by rw [← nI_add]; rfl]
  refine w_iload_n dX7_addHeap_69 rfl ?_
  refine x_iast (j := 1 + ln) dX7_addHeap_70 rfl (by omega) rfl (show 1 + ln < 172 by omega) ?_
  refine w_aload_n dX7_addHeap_71 rfl ?_
  refine x_getr (ci := 7) (k := 0) (a := 80) dX7_addHeap_72 rfl (by decide) (by decide) (by omega) fl_X7_7 (Or.inr ⟨_, rfl⟩) hR.2.1 ?_
  refine w_iconst (v := 5) dX7_addHeap_75 (by decide) ?_
  refine w_aload_n dX7_addHeap_76 rfl ?_
  refine x_getr (ci := 7) (k := 0) (a := 80) dX7_addHeap_77 rfl (by decide) (by decide) (by omega) fl_X7_7 (Or.inr ⟨_, rfl⟩) hR.2.1 ?_
  refine w_iconst (v := 0) dX7_addHeap_80 (by decide) ?_
  refine x_iald (j := 0) dX7_addHeap_81 rfl (by omega) rfl (show 0 < 172 by decide) ?_
  rw [up2_n _ _ (by omega), d0]
  refine w_iadd dX7_addHeap_82 ?_
  rw [show (5 : Int32) + nI ln = nI (5 + ln) from by rw [← nI_add]; rfl]
  refine w_iload_n dX7_addHeap_83 rfl ?_
  refine x_iast (j := 5 + ln) dX7_addHeap_84 rfl (by omega) rfl (show 5 + ln < 172 by omega) ?_
  refine w_aload_n dX7_addHeap_85 rfl ?_
  refine x_getr (ci := 7) (k := 0) (a := 80) dX7_addHeap_86 rfl (by decide) (by decide) (by omega) fl_X7_7 (Or.inr ⟨_, rfl⟩) hR.2.1 ?_
  refine w_iconst (v := 0) dX7_addHeap_89 (by decide) ?_
  refine w_dup2 dX7_addHeap_90 rfl rfl ?_
  refine x_iald (j := 0) dX7_addHeap_91 rfl (by omega) rfl (show 0 < 172 by decide) ?_
  rw [up2_n _ _ (by omega), up2_n _ _ (by omega), d0]
  refine w_iconst (v := 1) dX7_addHeap_92 (by decide) ?_
  refine w_iadd dX7_addHeap_93 ?_
  rw [nI_1]
  refine x_iast (j := 0) dX7_addHeap_94 rfl (by omega) rfl (show 0 < 172 by decide) ?_
  refine w_aload_n dX7_addHeap_95 rfl ?_
  refine x_getr (ci := 7) (k := 0) (a := 80) dX7_addHeap_96 rfl (by decide) (by decide) (by omega) fl_X7_7 (Or.inr ⟨_, rfl⟩) hR.2.1 ?_
  refine w_iconst (v := 0) dX7_addHeap_99 (by decide) ?_
  refine x_iald (j := 0) dX7_addHeap_100 rfl (by omega) rfl (show 0 < 172 by decide) ?_
  rw [up2_s]
  refine w_iconst (v := 1) dX7_addHeap_101 (by decide) ?_
  refine w_isub dX7_addHeap_102 ?_
  rw [nI_pred]
  have fd : frD I2 (up2 (up2 (up2 I2 80 (1 + ln) (nI r)) 80 (5 + ln) (nI z)) 80 0 (nI (ln + 1))) := (fun o ho => by funext j; rw [up2_n _ _ (by simp [ho]), up2_n _ _ (by simp [ho]), up2_n _ _ (by simp [ho])])
  have sl : slM (up2 (up2 (up2 I2 80 (1 + ln) (nI r)) 80 (5 + ln) (nI z)) 80 0 (nI (ln + 1))) 80 0 (A.st.app r z) := (by obtain ⟨q1, q2, q3, q4, q5, q6⟩ := k2.1; refine ⟨by rw [up2_s]; show _ = nI (A.st.hs ++ [(r, z)]).length; rw [List.length_append, hln]; rfl, fun j hj => ?_, by rw [up2_n _ _ (by omega), up2_n _ _ (by omega), up2_n _ _ (by omega)]; exact q3, by rw [up2_n _ _ (by omega), up2_n _ _ (by omega), up2_n _ _ (by omega)]; exact q4, by rw [up2_n _ _ (by omega), up2_n _ _ (by omega), up2_n _ _ (by omega)]; exact q5, fun i hi w hw => by rw [up2_n _ _ (by omega), up2_n _ _ (by omega), up2_n _ _ (by omega)]; exact q6 i hi w hw⟩; have hj' : j < ln + 1 := (by have hj2 : j < (A.st.hs ++ [(r, z)]).length := hj; rw [List.length_append, hln] at hj2; exact hj2); rw [(app_get A.st r z j).1, (app_get A.st r z j).2, hln]; by_cases e : j = ln; subst e; rw [if_pos rfl, if_pos rfl]; exact ⟨by rw [up2_n _ _ (by omega), up2_n _ _ (by omega), show 0 + 1 + j = 1 + j by omega, up2_s], by rw [up2_n _ _ (by omega), show 0 + 5 + j = 5 + j by omega, up2_s]⟩; rw [if_neg e, if_neg e, up2_n _ _ (by omega), up2_n _ _ (by omega), up2_n _ _ (by omega), up2_n _ _ (by omega), up2_n _ _ (by omega), up2_n _ _ (by omega)]; exact q2 j (by show j < A.st.hs.length; omega))
  refine w_iret dX7_addHeap_103 rfl rfl ⟨_, _, rfl, ⟨rfl, qP.of (k1.o.trans fd.o) ((k2.dat fd sl).up (Nat.le_succ c))⟩, rfl⟩ (by decide) (by decide)
set_option maxRecDepth 100000 in
theorem m_removeHeap_x (hR : lkM R N) (hA : aOK A) (h : rM I A c) {x : Int32} (hx : x < 0 ∨ ¬ x < nI A.st.hs.length) : g_Ct E l mX7_removeHeap 2 46 0 0 [.ref 79, .int x] (I, J, R, D, N, ex) (g_is (some (.int 0)) (up2 (up2 I 79 17 0) 79 17 1, J, R, D, N, ex)) := by
  refine g_Ct.of (by decide +kernel) (lb rfl) ?_
  have hN := hR.1
  have h9 := h.thr 0
  have z9 : up2 I 79 17 0 79 17 = 0 := up2_s ..
  refine w_aload_n dX7_removeHeap_0 rfl ?_
  refine w_iconst (v := 0) dX7_removeHeap_1 (by decide) ?_
  refine x_puti (ci := 7) (k := 17) dX7_removeHeap_2 rfl (by decide) (by decide) (by omega) fl_X7_73 rfl rfl ?_
  refine w_aload_n dX7_removeHeap_5 rfl ?_
  refine w_iload_n dX7_removeHeap_6 rfl ?_
  refine y_callV dX7_removeHeap_7 lk_X7_378 [.int x] rfl (m_mayHeap_f E l hR z9 h9.1.1 hA.2.2.1.1 hx) (g_recv.obj (ci := 7) rfl (by decide) (show 79 < N by omega)) rfl ⟨⟨by decide, by decide⟩, by decide, by decide⟩ (lb rfl) ?_
  refine w_if_ne (tgt := 15) dX7_removeHeap_10 (by decide) (fun c_10 => absurd (rfl) c_10) (fun c_10 => ?_)
  refine w_iconst (v := 0) dX7_removeHeap_13 (by decide) ?_
  refine w_iret dX7_removeHeap_14 rfl rfl ⟨rfl, rfl⟩ (by decide) (by decide)
set_option maxRecDepth 100000 in
theorem m_removeHeap (hR : lkM R N) (hA : aOK A) (h : rM I A c) {k : Nat} (hk : k < A.st.hs.length) : g_Ct E l mX7_removeHeap 2 46 0 0 [.ref 79, .int (nI k)] (I, J, R, D, N, ex) (g_ri (fun y I' => y = nI (A.st.hs.length - 1) ∧ qP I (A.rec (A.st.del k)) c 0 I') J R D N ex) := by
  refine g_Ct.of (by decide +kernel) (lb rfl) ?_
  have hN := hR.1
  have h9 := h.thr 0
  have z9 : up2 I 79 17 0 79 17 = 0 := up2_s ..
  have hs := hA.2.2.1
  have l4 := hs.1
  have loop : ∀ I2, frK2 (up2 I 79 17 0) I2 → rM I2 (A.rec A.st) c → ∀ (f j : Nat) (I' : Nat → Nat → Int32), j + f = A.st.hs.length - 1 → k ≤ j → (I' 80 0 = nI (A.st.hs.length - 1) ∧ (∀ h, h < A.st.hs.length → I' 80 (1 + h) = nI (A.st.rl (if k ≤ h ∧ h < j then h + 1 else h)) ∧ I' 80 (5 + h) = nI (A.st.sz (if k ≤ h ∧ h < j then h + 1 else h))) ∧ (∀ i, 9 ≤ i → I' 80 i = I2 80 i) ∧ frD I2 I') → g_Wp E l mX7_removeHeap { frames := 2, cells := 0, slots := 0, locals := 46 } (g_Fin E (g_ri (fun y I' => y = nI (A.st.hs.length - 1) ∧ qP I (A.rec (A.st.del k)) c 0 I') J R D N ex) 0 0) 0 0 31 [(2, .int (nI j)), (0, .ref 79), (1, .int (nI k))] [] (I', J, R, D, N, ex) := by
    intro I2 k1 k2 f
    induction f with
    | zero =>
      intro j I' hj hkj ⟨g0, g1, g2, g3⟩
      obtain rfl : j = A.st.hs.length - 1 := by omega
      generalize hln : A.st.hs.length = ln at *
      have fd : frD I2 (up2 (up2 I' 80 (1 + (ln - 1)) 0) 80 (5 + (ln - 1)) 0) := fun o ho => by rw [← g3 o ho]; funext j; rw [up2_n _ _ (by simp [ho]), up2_n _ _ (by simp [ho])]
      have sl : slM (up2 (up2 I' 80 (1 + (ln - 1)) 0) 80 (5 + (ln - 1)) 0) 80 0 (A.st.del k) := by
        obtain ⟨q1, q2, q3, q4, q5, q6⟩ := k2.1
        have hdl := del_len (s := A.st) (k := k) (by omega)
        rw [hln] at hdl
        refine ⟨by rw [up2_n _ _ (by omega), up2_n _ _ (by omega), g0, hdl], fun h hh => ?_, by rw [up2_n _ _ (by omega), up2_n _ _ (by omega), g2 _ (by omega)]; exact q3, by rw [up2_n _ _ (by omega), up2_n _ _ (by omega), g2 _ (by omega)]; exact q4, by rw [up2_n _ _ (by omega), up2_n _ _ (by omega), g2 _ (by omega)]; exact q5, fun i hi w hw => by rw [up2_n _ _ (by omega), up2_n _ _ (by omega), g2 _ (by omega)]; exact q6 i hi w hw⟩
        rw [hdl] at hh
        have hg := g1 h (by omega)
        rw [(del_get A.st k h).1, (del_get A.st k h).2, up2_n _ _ (by omega), up2_n _ _ (by omega), up2_n _ _ (by omega), up2_n _ _ (by omega), show 0 + 1 + h = 1 + h by omega, show 0 + 5 + h = 5 + h by omega, hg.1, hg.2]
        by_cases e : h < k
        · rw [if_neg (by omega), if_pos e]; exact ⟨rfl, rfl⟩
        · rw [if_pos (by omega), if_neg e]; exact ⟨rfl, rfl⟩
      refine w_iload_n dX7_removeHeap_31 rfl ?_
      refine w_aload_n dX7_removeHeap_32 rfl ?_
      refine x_getr (ci := 7) (k := 0) (a := 80) dX7_removeHeap_33 rfl (by decide) (by decide) (by omega) fl_X7_7 (Or.inr ⟨_, rfl⟩) hR.2.1 ?_
      refine w_iconst (v := 0) dX7_removeHeap_36 (by decide) ?_
      refine x_iald (j := 0) dX7_removeHeap_37 rfl (by omega) rfl (show 0 < 172 by decide) ?_
      rw [g0]
      refine w_icmp_ge (tgt := 83) dX7_removeHeap_38 (by decide) (fun c_38 => ?_) (fun c_38 => absurd ((nI_le (by omega) (by omega))) c_38)
      refine w_aload_n dX7_removeHeap_83 rfl ?_
      refine x_getr (ci := 7) (k := 0) (a := 80) dX7_removeHeap_84 rfl (by decide) (by decide) (by omega) fl_X7_7 (Or.inr ⟨_, rfl⟩) hR.2.1 ?_
      refine w_iconst (v := 1) dX7_removeHeap_87 (by decide) ?_
      refine w_aload_n dX7_removeHeap_88 rfl ?_
      refine x_getr (ci := 7) (k := 0) (a := 80) dX7_removeHeap_89 rfl (by decide) (by decide) (by omega) fl_X7_7 (Or.inr ⟨_, rfl⟩) hR.2.1 ?_
      refine w_iconst (v := 0) dX7_removeHeap_92 (by decide) ?_
      refine x_iald (j := 0) dX7_removeHeap_93 rfl (by omega) rfl (show 0 < 172 by decide) ?_
      rw [g0]
      refine w_iadd dX7_removeHeap_94 ?_
      rw [show (1 : Int32) + nI (ln - 1) = nI (1 + (ln - 1)) from by rw [← nI_add]; rfl]
      refine w_iconst (v := 0) dX7_removeHeap_95 (by decide) ?_
      refine x_iast (j := 1 + (ln - 1)) dX7_removeHeap_96 rfl (by omega) rfl (show 1 + (ln - 1) < 172 by omega) ?_
      refine w_aload_n dX7_removeHeap_97 rfl ?_
      refine x_getr (ci := 7) (k := 0) (a := 80) dX7_removeHeap_98 rfl (by decide) (by decide) (by omega) fl_X7_7 (Or.inr ⟨_, rfl⟩) hR.2.1 ?_
      refine w_iconst (v := 5) dX7_removeHeap_101 (by decide) ?_
      refine w_aload_n dX7_removeHeap_102 rfl ?_
      refine x_getr (ci := 7) (k := 0) (a := 80) dX7_removeHeap_103 rfl (by decide) (by decide) (by omega) fl_X7_7 (Or.inr ⟨_, rfl⟩) hR.2.1 ?_
      refine w_iconst (v := 0) dX7_removeHeap_106 (by decide) ?_
      refine x_iald (j := 0) dX7_removeHeap_107 rfl (by omega) rfl (show 0 < 172 by decide) ?_
      rw [up2_n _ _ (by omega), g0]
      refine w_iadd dX7_removeHeap_108 ?_
      rw [show (5 : Int32) + nI (ln - 1) = nI (5 + (ln - 1)) from by rw [← nI_add]; rfl]
      refine w_iconst (v := 0) dX7_removeHeap_109 (by decide) ?_
      refine x_iast (j := 5 + (ln - 1)) dX7_removeHeap_110 rfl (by omega) rfl (show 5 + (ln - 1) < 172 by omega) ?_
      refine w_aload_n dX7_removeHeap_111 rfl ?_
      refine x_getr (ci := 7) (k := 0) (a := 80) dX7_removeHeap_112 rfl (by decide) (by decide) (by omega) fl_X7_7 (Or.inr ⟨_, rfl⟩) hR.2.1 ?_
      refine w_iconst (v := 0) dX7_removeHeap_115 (by decide) ?_
      refine x_iald (j := 0) dX7_removeHeap_116 rfl (by omega) rfl (show 0 < 172 by decide) ?_
      rw [up2_n _ _ (by omega), up2_n _ _ (by omega), g0]
      refine w_iret dX7_removeHeap_117 rfl rfl ⟨_, _, rfl, ⟨rfl, qP.of (k1.o.trans fd.o) ((k2.dat fd sl).up (Nat.le_succ c))⟩, rfl⟩ (by decide) (by decide)
    | succ f ih =>
      intro j I' hj hkj ⟨g0, g1, g2, g3⟩
      have a1 := g1 (j + 1) (by omega)
      rw [if_neg (by omega), show 1 + (j + 1) = 1 + j + 1 by omega, show 5 + (j + 1) = 5 + j + 1 by omega] at a1
      refine w_iload_n dX7_removeHeap_31 rfl ?_
      refine w_aload_n dX7_removeHeap_32 rfl ?_
      refine x_getr (ci := 7) (k := 0) (a := 80) dX7_removeHeap_33 rfl (by decide) (by decide) (by omega) fl_X7_7 (Or.inr ⟨_, rfl⟩) hR.2.1 ?_
      refine w_iconst (v := 0) dX7_removeHeap_36 (by decide) ?_
      refine x_iald (j := 0) dX7_removeHeap_37 rfl (by omega) rfl (show 0 < 172 by decide) ?_
      rw [g0]
      refine w_icmp_ge (tgt := 83) dX7_removeHeap_38 (by decide) (fun c_38 => absurd c_38 ((nI_ge (by omega) (by omega)))) (fun c_38 => ?_)
      refine w_aload_n dX7_removeHeap_41 rfl ?_
      refine x_getr (ci := 7) (k := 0) (a := 80) dX7_removeHeap_42 rfl (by decide) (by decide) (by omega) fl_X7_7 (Or.inr ⟨_, rfl⟩) hR.2.1 ?_
      refine w_iconst (v := 1) dX7_removeHeap_45 (by decide) ?_
      refine w_iload_n dX7_removeHeap_46 rfl ?_
      refine w_iadd dX7_removeHeap_47 ?_
      rw [show (1 : Int32) + nI j = nI (1 + j) from by rw [← nI_add]; rfl]
      refine w_aload_n dX7_removeHeap_48 rfl ?_
      refine x_getr (ci := 7) (k := 0) (a := 80) dX7_removeHeap_49 rfl (by decide) (by decide) (by omega) fl_X7_7 (Or.inr ⟨_, rfl⟩) hR.2.1 ?_
      refine w_iconst (v := 1) dX7_removeHeap_52 (by decide) ?_
      refine w_iload_n dX7_removeHeap_53 rfl ?_
      refine w_iadd dX7_removeHeap_54 ?_
      rw [show (1 : Int32) + nI j = nI (1 + j) from by rw [← nI_add]; rfl]
      refine w_iconst (v := 1) dX7_removeHeap_55 (by decide) ?_
      refine w_iadd dX7_removeHeap_56 ?_
      rw [nI_1]
      refine x_iald (j := 1 + j + 1) dX7_removeHeap_57 rfl (by omega) rfl (show 1 + j + 1 < 172 by omega) ?_
      rw [a1.1]
      refine x_iast (j := 1 + j) dX7_removeHeap_58 rfl (by omega) rfl (show 1 + j < 172 by omega) ?_
      refine w_aload_n dX7_removeHeap_59 rfl ?_
      refine x_getr (ci := 7) (k := 0) (a := 80) dX7_removeHeap_60 rfl (by decide) (by decide) (by omega) fl_X7_7 (Or.inr ⟨_, rfl⟩) hR.2.1 ?_
      refine w_iconst (v := 5) dX7_removeHeap_63 (by decide) ?_
      refine w_iload_n dX7_removeHeap_64 rfl ?_
      refine w_iadd dX7_removeHeap_65 ?_
      rw [show (5 : Int32) + nI j = nI (5 + j) from by rw [← nI_add]; rfl]
      refine w_aload_n dX7_removeHeap_66 rfl ?_
      refine x_getr (ci := 7) (k := 0) (a := 80) dX7_removeHeap_67 rfl (by decide) (by decide) (by omega) fl_X7_7 (Or.inr ⟨_, rfl⟩) hR.2.1 ?_
      refine w_iconst (v := 5) dX7_removeHeap_70 (by decide) ?_
      refine w_iload_n dX7_removeHeap_71 rfl ?_
      refine w_iadd dX7_removeHeap_72 ?_
      rw [show (5 : Int32) + nI j = nI (5 + j) from by rw [← nI_add]; rfl]
      refine w_iconst (v := 1) dX7_removeHeap_73 (by decide) ?_
      refine w_iadd dX7_removeHeap_74 ?_
      rw [nI_1]
      refine x_iald (j := 5 + j + 1) dX7_removeHeap_75 rfl (by omega) rfl (show 5 + j + 1 < 172 by omega) ?_
      rw [up2_n _ _ (by omega), a1.2]
      refine x_iast (j := 5 + j) dX7_removeHeap_76 rfl (by omega) rfl (show 5 + j < 172 by omega) ?_
      refine w_iinc (v := nI (j + 1)) dX7_removeHeap_77 rfl (nI_inc _) (by decide) rfl ?_
      refine w_goto (tgt := 31) dX7_removeHeap_80 (by decide) ?_
      refine w_lv [2, 0, 1] (ih (j + 1) _ (by omega) (by omega) ⟨by rw [up2_n _ _ (by omega), up2_n _ _ (by omega)]; exact g0, fun h hh => ?_, fun i hi => by rw [up2_n _ _ (by omega), up2_n _ _ (by omega)]; exact g2 i hi, fun o ho => by rw [← g3 o ho]; funext i; rw [up2_n _ _ (by simp [ho]), up2_n _ _ (by simp [ho])]⟩)
      by_cases e : h = j
      · subst e; rw [if_pos (by omega)]; exact ⟨by rw [up2_n _ _ (by omega), up2_s], up2_s ..⟩
      · have g9 := g1 h hh
        rw [up2_n _ _ (by omega), up2_n _ _ (by omega), up2_n _ _ (by omega), up2_n _ _ (by omega), g9.1, g9.2]
        by_cases e2 : k ≤ h ∧ h < j
        · rw [if_pos e2, if_pos (by omega)]; exact ⟨rfl, rfl⟩
        · rw [if_neg e2, if_neg (by omega)]; exact ⟨rfl, rfl⟩
  refine w_aload_n dX7_removeHeap_0 rfl ?_
  refine w_iconst (v := 0) dX7_removeHeap_1 (by decide) ?_
  refine x_puti (ci := 7) (k := 17) dX7_removeHeap_2 rfl (by decide) (by decide) (by omega) fl_X7_73 rfl rfl ?_
  refine w_aload_n dX7_removeHeap_5 rfl ?_
  refine w_iload_n dX7_removeHeap_6 rfl ?_
  refine y_callV dX7_removeHeap_7 lk_X7_378 [.int (nI k)] rfl (m_mayHeap_t E l hR z9 h9.1.1 hA.2.2.1.1 hk) (g_recv.obj (ci := 7) rfl (by decide) (show 79 < N by omega)) rfl ⟨⟨by decide, by decide⟩, by decide, by decide⟩ (lb rfl) ?_
  refine w_if_ne (tgt := 15) dX7_removeHeap_10 (by decide) (fun c_10 => ?_) (fun c_10 => absurd c_10 ((by decide)))
  refine w_aload_n dX7_removeHeap_15 rfl ?_
  refine u_callV dX7_removeHeap_16 lk_X7_387 [] rfl (m_keeps E l hR hA h9) (g_recv.obj (ci := 7) rfl (by decide) (show 79 < N by omega)) rfl ⟨⟨by decide, by decide⟩, by decide, by decide⟩ (lb rfl) (fun I2 h_16 => ?_)
  obtain ⟨k1, k2⟩ := h_16
  have d0 : I2 80 0 = nI A.st.hs.length := k2.1.1
  refine w_aload_n dX7_removeHeap_19 rfl ?_
  refine x_getr (ci := 7) (k := 0) (a := 80) dX7_removeHeap_20 rfl (by decide) (by decide) (by omega) fl_X7_7 (Or.inr ⟨_, rfl⟩) hR.2.1 ?_
  refine w_iconst (v := 0) dX7_removeHeap_23 (by decide) ?_
  refine w_dup2 dX7_removeHeap_24 rfl rfl ?_
  refine x_iald (j := 0) dX7_removeHeap_25 rfl (by omega) rfl (show 0 < 172 by decide) ?_
  rw [d0]
  refine w_iconst (v := 1) dX7_removeHeap_26 (by decide) ?_
  refine w_isub dX7_removeHeap_27 ?_
  refine w_st (show _ = [.int (nI (A.st.hs.length - 1)), .int 0, .ref 80] from congrArg (fun v => [Value.int v, Value.int 0, Value.ref 80]) (pk_sub (show 1 ≤ A.st.hs.length by omega))) ?_
  refine x_iast (j := 0) dX7_removeHeap_28 rfl (by omega) rfl (show 0 < 172 by decide) ?_
  refine w_iload_n dX7_removeHeap_29 rfl ?_
  refine w_istore_n dX7_removeHeap_30 (by decide) rfl ?_
  refine w_lv [2, 0, 1] (loop I2 k1 k2 (A.st.hs.length - 1 - k) k _ (by omega) (Nat.le_refl k) ⟨up2_s .., fun h hh => ?_, fun i hi => up2_n _ _ (by omega), fun o ho => by funext i; exact up2_n _ _ (by simp [ho])⟩)
  have g9 := k2.1.2.1 h hh
  rw [show 0 + 1 + h = 1 + h by omega, show 0 + 5 + h = 5 + h by omega] at g9
  rw [if_neg (by omega), up2_n _ _ (by omega), up2_n _ _ (by omega)]
  exact g9
end MW
