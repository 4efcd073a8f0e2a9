/-! HeapGamesModel: take, takeBoth, pass, play -/
theorem okA_le {k : Nat} {S : Nat → Bool} {n a : Nat} (h : okA k S n a = true) : 1 ≤ a ∧ a ≤ n := by
  unfold okA at h
  rw [Bool.and_eq_true] at h
  exact of_decide_eq_true h.1
section MV2
variable (E : GE) (l : Launch)
variable {I : Nat → Nat → Int32} {J : Nat → Nat → Int64} {R : Nat → Nat → Option Nat} {D : Nat → Nat → UInt64} {N : Nat} {ex : Bool} {A : AS} {c : Nat}

set_option maxRecDepth 100000 in
theorem m_take_x1 (hR : lkM R N) (hA : aOK A) (h : rM I A c) {x : Int32} (hx : x < 0 ∨ ¬ x < nI A.st.hs.length) (z : Int32) : g_Ct E l mX7_take 3 71 0 0 [.ref 79, .int x, .int z] (I, J, R, D, N, ex) (g_is (some (.int 0)) (up2 (up2 I 79 17 0) 79 17 1, J, R, D, N, ex)) := by
  refine g_Ct.of (by decide +kernel) (lb rfl) ?_
  have hN := hR.1
  have h9 := h.thr 0
  have z9 : up2 I 79 17 0 79 17 = 0 := up2_s ..
  refine w_aload_n dX7_take_0 rfl ?_
  refine w_iconst (v := 0) dX7_take_1 (by decide) ?_
  refine x_puti (ci := 7) (k := 17) dX7_take_2 rfl (by decide) (by decide) (by omega) fl_X7_73 rfl rfl ?_
  refine w_aload_n dX7_take_5 rfl ?_
  refine w_iload_n dX7_take_6 rfl ?_
  refine y_callV dX7_take_7 lk_X7_378 [.int x] rfl (m_mayHeap_f E l hR z9 h9.1.1 hA.2.2.1.1 hx) (g_recv.obj (ci := 7) rfl (by decide) (show 79 < N by omega)) rfl ⟨⟨by decide, by decide⟩, by decide, by decide⟩ (lb rfl) ?_
  refine w_if_eq (tgt := 42) dX7_take_10 (by decide) (fun c_10 => ?_) (fun c_10 => absurd (rfl) c_10)
  refine w_iconst (v := 0) dX7_take_42 (by decide) ?_
  refine w_iret dX7_take_43 rfl rfl ⟨rfl, rfl⟩ (by decide) (by decide)
set_option maxRecDepth 100000 in
theorem m_take_x2 (hR : lkM R N) (hA : aOK A) (h : rM I A c) {k : Nat} (hk : k < A.st.hs.length) {z : Int32} (hz : okI (A.ru.1 (A.st.rl k)) (A.ru.2.1 (A.st.rl k)) (A.st.sz k) z = false) : g_Ct E l mX7_take 3 71 0 0 [.ref 79, .int (nI k), .int z] (I, J, R, D, N, ex) (g_is (some (.int 0)) (up2 (up2 I 79 17 0) 79 17 2, J, R, D, N, ex)) := by
  refine g_Ct.of (by decide +kernel) (lb rfl) ?_
  have hN := hR.1
  have h9 := h.thr 0
  have z9 : up2 I 79 17 0 79 17 = 0 := up2_s ..
  have hs := hA.2.2.1
  have l4 := hs.1
  have l40 := hs.2.2.2.1
  have hrl := hs.rl hk
  have hsz := hs.sz k
  have hnr := hA.1
  obtain ⟨d1, d2⟩ := h9.1.2.1 k hk
  obtain ⟨al, hm1, hm2⟩ := h9.2.2.2.1.2.1 _ hrl
  rw [show 0 + 1 + k = 1 + k by omega] at d1
  rw [show 0 + 5 + k = 5 + k by omega] at d2
  rw [hm2] at hz
  refine w_aload_n dX7_take_0 rfl ?_
  refine w_iconst (v := 0) dX7_take_1 (by decide) ?_
  refine x_puti (ci := 7) (k := 17) dX7_take_2 rfl (by decide) (by decide) (by omega) fl_X7_73 rfl rfl ?_
  refine w_aload_n dX7_take_5 rfl ?_
  refine w_iload_n dX7_take_6 rfl ?_
  refine y_callV dX7_take_7 lk_X7_378 [.int (nI k)] rfl (m_mayHeap_t E l hR z9 h9.1.1 hA.2.2.1.1 hk) (g_recv.obj (ci := 7) rfl (by decide) (show 79 < N by omega)) rfl ⟨⟨by decide, by decide⟩, by decide, by decide⟩ (lb rfl) ?_
  refine w_if_eq (tgt := 42) dX7_take_10 (by decide) (fun c_10 => absurd c_10 ((by decide))) (fun c_10 => ?_)
  refine w_aload_n dX7_take_13 rfl ?_
  refine w_aload_n dX7_take_14 rfl ?_
  refine w_aload_n dX7_take_15 rfl ?_
  refine x_getr (ci := 7) (k := 0) (a := 80) dX7_take_16 rfl (by decide) (by decide) (by omega) fl_X7_7 (Or.inr ⟨_, rfl⟩) hR.2.1 ?_
  refine w_iconst (v := 1) dX7_take_19 (by decide) ?_
  refine w_iload_n dX7_take_20 rfl ?_
  refine w_iadd dX7_take_21 ?_
  rw [show (1 : Int32) + nI k = nI (1 + k) from by rw [← nI_add]; rfl]
  refine x_iald (j := 1 + k) dX7_take_22 rfl (by omega) rfl (show 1 + k < 172 by omega) ?_
  rw [d1]
  refine w_aload_n dX7_take_23 rfl ?_
  refine x_getr (ci := 7) (k := 0) (a := 80) dX7_take_24 rfl (by decide) (by decide) (by omega) fl_X7_7 (Or.inr ⟨_, rfl⟩) hR.2.1 ?_
  refine w_iconst (v := 5) dX7_take_27 (by decide) ?_
  refine w_iload_n dX7_take_28 rfl ?_
  refine w_iadd dX7_take_29 ?_
  rw [show (5 : Int32) + nI k = nI (5 + k) from by rw [← nI_add]; rfl]
  refine x_iald (j := 5 + k) dX7_take_30 rfl (by omega) rfl (show 5 + k < 172 by omega) ?_
  rw [d2]
  refine w_iload_n dX7_take_31 rfl ?_
  refine y_callV dX7_take_32 lk_X7_92 [.int (nI (A.st.rl k)), .int (nI (A.st.sz k)), .int z] rfl (m_allows E l hR (by omega) hm1 (by omega) z) (g_recv.obj (ci := 7) rfl (by decide) (show 79 < N by omega)) rfl ⟨⟨by decide, by decide⟩, by decide, by decide⟩ (lb rfl) ?_
  rw [hz]
  refine w_iconst (v := 2) dX7_take_35 (by decide) ?_
  refine y_callV dX7_take_36 lk_X7_256 [.int 0, .int 2] rfl (m_may_f E l (by omega) z9 (by decide)) (g_recv.obj (ci := 7) rfl (by decide) (show 79 < N by omega)) rfl ⟨⟨by decide, by decide⟩, by decide, by decide⟩ (lb rfl) ?_
  refine w_if_ne (tgt := 44) dX7_take_39 (by decide) (fun c_39 => absurd (rfl) c_39) (fun c_39 => ?_)
  refine w_iconst (v := 0) dX7_take_42 (by decide) ?_
  refine w_iret dX7_take_43 rfl rfl ⟨rfl, rfl⟩ (by decide) (by decide)
set_option maxRecDepth 100000 in
theorem m_take_full (hR : lkM R N) (hA : aOK A) (h : rM I A c) {k : Nat} (hk : k < A.st.hs.length) {a : Nat} (ha : okA (A.ru.1 (A.st.rl k)) (A.ru.2.1 (A.st.rl k)) (A.st.sz k) a = true) (hf : A.st.pl.length = 40) : g_Ct E l mX7_take 3 71 0 0 [.ref 79, .int (nI k), .int (nI a)] (I, J, R, D, N, ex) (g_ri (fun y I' => y = -1 ∧ qP I A c 0 I') J R D N ex) := by
  refine g_Ct.of (by decide +kernel) (lb rfl) ?_
  have hN := hR.1
  have h9 := h.thr 0
  have z9 : up2 I 79 17 0 79 17 = 0 := up2_s ..
  have hs := hA.2.2.1
  have l4 := hs.1
  have l40 := hs.2.2.2.1
  have hrl := hs.rl hk
  have hsz := hs.sz k
  have hnr := hA.1
  obtain ⟨d1, d2⟩ := h9.1.2.1 k hk
  obtain ⟨al, hm1, hm2⟩ := h9.2.2.2.1.2.1 _ hrl
  rw [show 0 + 1 + k = 1 + k by omega] at d1
  rw [show 0 + 5 + k = 5 + k by omega] at d2
  have hle := okA_le ha
  have ha2 : okI (A.ru.1 (A.st.rl k)) (alS al) (A.st.sz k) (nI a) = true := by rw [okI_nI hle.1 (by omega), ← hm2]; exact ha
  refine w_aload_n dX7_take_0 rfl ?_
  refine w_iconst (v := 0) dX7_take_1 (by decide) ?_
  refine x_puti (ci := 7) (k := 17) dX7_take_2 rfl (by decide) (by decide) (by omega) fl_X7_73 rfl rfl ?_
  refine w_aload_n dX7_take_5 rfl ?_
  refine w_iload_n dX7_take_6 rfl ?_
  refine y_callV dX7_take_7 lk_X7_378 [.int (nI k)] rfl (m_mayHeap_t E l hR z9 h9.1.1 hA.2.2.1.1 hk) (g_recv.obj (ci := 7) rfl (by decide) (show 79 < N by omega)) rfl ⟨⟨by decide, by decide⟩, by decide, by decide⟩ (lb rfl) ?_
  refine w_if_eq (tgt := 42) dX7_take_10 (by decide) (fun c_10 => absurd c_10 ((by decide))) (fun c_10 => ?_)
  refine w_aload_n dX7_take_13 rfl ?_
  refine w_aload_n dX7_take_14 rfl ?_
  refine w_aload_n dX7_take_15 rfl ?_
  refine x_getr (ci := 7) (k := 0) (a := 80) dX7_take_16 rfl (by decide) (by decide) (by omega) fl_X7_7 (Or.inr ⟨_, rfl⟩) hR.2.1 ?_
  refine w_iconst (v := 1) dX7_take_19 (by decide) ?_
  refine w_iload_n dX7_take_20 rfl ?_
  refine w_iadd dX7_take_21 ?_
  rw [show (1 : Int32) + nI k = nI (1 + k) from by rw [← nI_add]; rfl]
  refine x_iald (j := 1 + k) dX7_take_22 rfl (by omega) rfl (show 1 + k < 172 by omega) ?_
  rw [d1]
  refine w_aload_n dX7_take_23 rfl ?_
  refine x_getr (ci := 7) (k := 0) (a := 80) dX7_take_24 rfl (by decide) (by decide) (by omega) fl_X7_7 (Or.inr ⟨_, rfl⟩) hR.2.1 ?_
  refine w_iconst (v := 5) dX7_take_27 (by decide) ?_
  refine w_iload_n dX7_take_28 rfl ?_
  refine w_iadd dX7_take_29 ?_
  rw [show (5 : Int32) + nI k = nI (5 + k) from by rw [← nI_add]; rfl]
  refine x_iald (j := 5 + k) dX7_take_30 rfl (by omega) rfl (show 5 + k < 172 by omega) ?_
  rw [d2]
  refine w_iload_n dX7_take_31 rfl ?_
  refine y_callV dX7_take_32 lk_X7_92 [.int (nI (A.st.rl k)), .int (nI (A.st.sz k)), .int (nI a)] rfl (m_allows E l hR (by omega) hm1 (by omega) (nI a)) (g_recv.obj (ci := 7) rfl (by decide) (show 79 < N by omega)) rfl ⟨⟨by decide, by decide⟩, by decide, by decide⟩ (lb rfl) ?_
  rw [ha2]
  refine w_iconst (v := 2) dX7_take_35 (by decide) ?_
  refine y_callV dX7_take_36 lk_X7_256 [.int 1, .int 2] rfl (m_may_t E l (by omega) z9 2) (g_recv.obj (ci := 7) rfl (by decide) (show 79 < N by omega)) rfl ⟨⟨by decide, by decide⟩, by decide, by decide⟩ (lb rfl) ?_
  refine w_if_ne (tgt := 44) dX7_take_39 (by decide) (fun c_39 => ?_) (fun c_39 => absurd c_39 ((by decide)))
  refine w_aload_n dX7_take_44 rfl ?_
  refine y_callV dX7_take_45 lk_X7_390 [] rfl (m_isFull E l hR h9.1.2.2.2.2.1 l40) (g_recv.obj (ci := 7) rfl (by decide) (show 79 < N by omega)) rfl ⟨⟨by decide, by decide⟩, by decide, by decide⟩ (lb rfl) ?_
  refine w_if_eq (tgt := 53) dX7_take_48 (by decide) (fun c_48 => absurd c_48 ((by rw [decide_eq_true hf]; decide))) (fun c_48 => ?_)
  refine w_iconst (v := (-1)) dX7_take_51 (by decide) ?_
  refine w_iret dX7_take_52 rfl rfl ⟨_, _, rfl, ⟨rfl, qP.at0 h 0⟩, rfl⟩ (by decide) (by decide)
set_option maxRecDepth 100000 in
theorem m_take (hR : lkM R N) (hA : aOK A) (h : rM I A c) {k : Nat} (hk : k < A.st.hs.length) {a : Nat} (ha : okA (A.ru.1 (A.st.rl k)) (A.ru.2.1 (A.st.rl k)) (A.st.sz k) a = true) (hf : A.st.pl.length < 40) : g_Ct E l mX7_take 3 71 0 0 [.ref 79, .int (nI k), .int (nI a)] (I, J, R, D, N, ex) (g_ri (fun y I' => y = nI (A.st.sz k - a) ∧ qP I (A.rec (A.st.play (Mv.take k a))) c 0 I') J R D N ex) := by
  refine g_Ct.of (by decide +kernel) (lb rfl) ?_
  have hN := hR.1
  have h9 := h.thr 0
  have z9 : up2 I 79 17 0 79 17 = 0 := up2_s ..
  have hs := hA.2.2.1
  have l4 := hs.1
  have l40 := hs.2.2.2.1
  have hrl := hs.rl hk
  have hsz := hs.sz k
  have hnr := hA.1
  obtain ⟨d1, d2⟩ := h9.1.2.1 k hk
  obtain ⟨al, hm1, hm2⟩ := h9.2.2.2.1.2.1 _ hrl
  rw [show 0 + 1 + k = 1 + k by omega] at d1
  rw [show 0 + 5 + k = 5 + k by omega] at d2
  have hle := okA_le ha
  have ha2 : okI (A.ru.1 (A.st.rl k)) (alS al) (A.st.sz k) (nI a) = true := by rw [okI_nI hle.1 (by omega), ← hm2]; exact ha
  refine w_aload_n dX7_take_0 rfl ?_
  refine w_iconst (v := 0) dX7_take_1 (by decide) ?_
  refine x_puti (ci := 7) (k := 17) dX7_take_2 rfl (by decide) (by decide) (by omega) fl_X7_73 rfl rfl ?_
  refine w_aload_n dX7_take_5 rfl ?_
  refine w_iload_n dX7_take_6 rfl ?_
  refine y_callV dX7_take_7 lk_X7_378 [.int (nI k)] rfl (m_mayHeap_t E l hR z9 h9.1.1 hA.2.2.1.1 hk) (g_recv.obj (ci := 7) rfl (by decide) (show 79 < N by omega)) rfl ⟨⟨by decide, by decide⟩, by decide, by decide⟩ (lb rfl) ?_
  refine w_if_eq (tgt := 42) dX7_take_10 (by decide) (fun c_10 => absurd c_10 ((by decide))) (fun c_10 => ?_)
  refine w_aload_n dX7_take_13 rfl ?_
  refine w_aload_n dX7_take_14 rfl ?_
  refine w_aload_n dX7_take_15 rfl ?_
  refine x_getr (ci := 7) (k := 0) (a := 80) dX7_take_16 rfl (by decide) (by decide) (by omega) fl_X7_7 (Or.inr ⟨_, rfl⟩) hR.2.1 ?_
  refine w_iconst (v := 1) dX7_take_19 (by decide) ?_
  refine w_iload_n dX7_take_20 rfl ?_
  refine w_iadd dX7_take_21 ?_
  rw [show (1 : Int32) + nI k = nI (1 + k) from by rw [← nI_add]; rfl]
  refine x_iald (j := 1 + k) dX7_take_22 rfl (by omega) rfl (show 1 + k < 172 by omega) ?_
  rw [d1]
  refine w_aload_n dX7_take_23 rfl ?_
  refine x_getr (ci := 7) (k := 0) (a := 80) dX7_take_24 rfl (by decide) (by decide) (by omega) fl_X7_7 (Or.inr ⟨_, rfl⟩) hR.2.1 ?_
  refine w_iconst (v := 5) dX7_take_27 (by decide) ?_
  refine w_iload_n dX7_take_28 rfl ?_
  refine w_iadd dX7_take_29 ?_
  rw [show (5 : Int32) + nI k = nI (5 + k) from by rw [← nI_add]; rfl]
  refine x_iald (j := 5 + k) dX7_take_30 rfl (by omega) rfl (show 5 + k < 172 by omega) ?_
  rw [d2]
  refine w_iload_n dX7_take_31 rfl ?_
  refine y_callV dX7_take_32 lk_X7_92 [.int (nI (A.st.rl k)), .int (nI (A.st.sz k)), .int (nI a)] rfl (m_allows E l hR (by omega) hm1 (by omega) (nI a)) (g_recv.obj (ci := 7) rfl (by decide) (show 79 < N by omega)) rfl ⟨⟨by decide, by decide⟩, by decide, by decide⟩ (lb rfl) ?_
  rw [ha2]
  refine w_iconst (v := 2) dX7_take_35 (by decide) ?_
  refine y_callV dX7_take_36 lk_X7_256 [.int 1, .int 2] rfl (m_may_t E l (by omega) z9 2) (g_recv.obj (ci := 7) rfl (by decide) (show 79 < N by omega)) rfl ⟨⟨by decide, by decide⟩, by decide, by decide⟩ (lb rfl) ?_
  refine w_if_ne (tgt := 44) dX7_take_39 (by decide) (fun c_39 => ?_) (fun c_39 => absurd c_39 ((by decide)))
  refine w_aload_n dX7_take_44 rfl ?_
  refine y_callV dX7_take_45 lk_X7_390 [] rfl (m_isFull E l hR h9.1.2.2.2.2.1 l40) (g_recv.obj (ci := 7) rfl (by decide) (show 79 < N by omega)) rfl ⟨⟨by decide, by decide⟩, by decide, by decide⟩ (lb rfl) ?_
  refine w_if_eq (tgt := 53) dX7_take_48 (by decide) (fun c_48 => ?_) (fun c_48 => absurd ((by rw [decide_eq_false (by omega)]; rfl)) c_48)
  refine w_aload_n dX7_take_53 rfl ?_
  refine w_iconst (v := 0) dX7_take_54 (by decide) ?_
  refine w_iload_n dX7_take_55 rfl ?_
  refine w_iconst (v := (-1)) dX7_take_56 (by decide) ?_
  refine w_iload_n dX7_take_57 rfl ?_
  refine u_callV dX7_take_58 lk_X7_393 [.int (deS (Mv.take k a) 0), .int (deS (Mv.take k a) 1), .int (deS (Mv.take k a) 2), .int (deS (Mv.take k a) 3)] rfl (m_plays E l hR hA h9 (m := Mv.take k a) ⟨(by omega : k < 4), hle.1, (by omega : a ≤ 15)⟩ ⟨hk, hle.1, hle.2⟩ hf) (g_recv.obj (ci := 7) rfl (by decide) (show 79 < N by omega)) rfl ⟨⟨by decide, by decide⟩, by decide, by decide⟩ (lb rfl) (fun I2 h_58 => ?_)
  obtain ⟨k1, k2⟩ := h_58
  have e5 : I2 80 (5 + k) = nI (A.st.sz k - a) := (by have := (k2.1.2.1 k (by show k < (A.st.put k (A.st.sz k - a)).hs.length; rw [put_len]; exact hk)).2; rw [show 0 + 5 + k = 5 + k by omega] at this; rw [this]; show nI ((A.st.put k (A.st.sz k - a)).sz k) = _; rw [put_sz _ hk, if_pos rfl])
  refine w_aload_n dX7_take_61 rfl ?_
  refine x_getr (ci := 7) (k := 0) (a := 80) dX7_take_62 rfl (by decide) (by decide) (by omega) fl_X7_7 (Or.inr ⟨_, rfl⟩) hR.2.1 ?_
  refine w_iconst (v := 5) dX7_take_65 (by decide) ?_
  refine w_iload_n dX7_take_66 rfl ?_
  refine w_iadd dX7_take_67 ?_
  rw [show (5 : Int32) + nI k = nI (5 + k) from by rw [← nI_add]; rfl]
  refine x_iald (j := 5 + k) dX7_take_68 rfl (by omega) rfl (show 5 + k < 172 by omega) ?_
  rw [e5]
  refine w_iret dX7_take_69 rfl rfl ⟨_, _, rfl, ⟨rfl, qP.of k1 (k2.up (Nat.le_succ c))⟩, rfl⟩ (by decide) (by decide)
set_option maxRecDepth 100000 in
theorem m_isShared_r (hR : lkM R N) (k o : Int32) {x : Int32} (hx : ¬ (¬ x < 1 ∧ ¬ 15 < x)) : g_Ct E l mX7_isShared 1 22 0 0 [.ref 79, .int k, .int o, .int x] (I, J, R, D, N, ex) (g_is (some (.int (b2i false))) (I, J, R, D, N, ex)) := by
  refine g_Ct.of (by decide +kernel) (lb rfl) ?_
  have hN := hR.1
  refine w_iload_n dX7_isShared_0 rfl ?_
  refine w_iload_n dX7_isShared_1 rfl ?_
  refine w_icmp_eq (tgt := 54) dX7_isShared_2 (by decide) (fun c_2 => ?_) (fun c_2 => ?_)
  · refine w_iconst (v := 0) dX7_isShared_54 (by decide) ?_
    refine w_iret dX7_isShared_55 rfl rfl ⟨rfl, rfl⟩ (by decide) (by decide)
  · refine w_iload_n dX7_isShared_5 rfl ?_
    refine w_iconst (v := 1) dX7_isShared_6 (by decide) ?_
    refine w_bipush (v := 15) dX7_isShared_7 (by decide) ?_
    refine y_callS dX7_isShared_9 lk_X7_77 [.int x, .int 1, .int 15] rfl (m_within E l _ _ _ _) rfl ⟨⟨by decide, by decide⟩, by decide, by decide⟩ (lb rfl) ?_
    rw [decide_eq_false hx]
    refine w_if_eq (tgt := 54) dX7_isShared_12 (by decide) (fun c_12 => ?_) (fun c_12 => absurd (rfl) c_12)
    refine w_iconst (v := 0) dX7_isShared_54 (by decide) ?_
    refine w_iret dX7_isShared_55 rfl rfl ⟨rfl, rfl⟩ (by decide) (by decide)
set_option maxRecDepth 100000 in
theorem m_isShared (hR : lkM R N) (hA : aOK A) (h : rM I A c) {k o a : Nat} (hk : k < A.st.hs.length) (ho : o < A.st.hs.length) (h1 : 1 ≤ a) (h15 : a ≤ 15) {b : Bool} (hb : b = true ↔ bothOK A k o a) : g_Ct E l mX7_isShared 1 22 0 0 [.ref 79, .int (nI k), .int (nI o), .int (nI a)] (I, J, R, D, N, ex) (g_is (some (.int (b2i b))) (I, J, R, D, N, ex)) := by
  refine g_Ct.of (by decide +kernel) (lb rfl) ?_
  have hN := hR.1
  have l4 := hA.2.2.1.1
  have z1 := hA.2.2.1.sz k
  have z2 := hA.2.2.1.sz o
  have hru6 := hA.2.1.2.2
  have d1 := (h.1.2.1 k hk).2
  have d2 := (h.1.2.1 o ho).2
  rw [show 0 + 5 + k = 5 + k by omega] at d1
  rw [show 0 + 5 + o = 5 + o by omega] at d2
  have hno : ∀ p : Prop, (bothOK A k o a → p) → ¬ p → b = false := fun p f np => by cases hbb : b with
    | false => rfl
    | true => exact absurd (f (hb.mp hbb)) np
  refine w_iload_n dX7_isShared_0 rfl ?_
  refine w_iload_n dX7_isShared_1 rfl ?_
  refine w_icmp_eq (tgt := 54) dX7_isShared_2 (by decide) (fun c_2 => ?_) (fun c_2 => ?_)
  · refine w_iconst (v := 0) dX7_isShared_54 (by decide) ?_
    refine w_iret dX7_isShared_55 rfl rfl (by first | exact ⟨rt_t (hb.mpr ⟨n_ne c_2, h1, h15, b2i_ne.mp c_23, n_nlt c_35, n_nlt c_47⟩), rfl⟩ | exact ⟨rt_f (hno _ (fun q => q.2.2.2.2.2) (by have := n_lt c_47; omega)), rfl⟩ | exact ⟨rt_f (hno _ (fun q => q.2.2.2.2.1) (by have := n_lt c_35; omega)), rfl⟩ | exact ⟨rt_f (hno _ (fun q => q.2.2.2.1) (by rw [b2i_0.mp c_23]; decide)), rfl⟩ | exact ⟨rt_f (hno _ (fun q => q.1) (fun q => q (n_eq c_2))), rfl⟩) (by decide) (by decide)
  · refine w_iload_n dX7_isShared_5 rfl ?_
    refine w_iconst (v := 1) dX7_isShared_6 (by decide) ?_
    refine w_bipush (v := 15) dX7_isShared_7 (by decide) ?_
    refine y_callS dX7_isShared_9 lk_X7_77 [.int (nI a), .int 1, .int 15] rfl (m_within E l _ _ _ _) rfl ⟨⟨by decide, by decide⟩, by decide, by decide⟩ (lb rfl) ?_
    rw [decide_eq_true (show ¬ nI a < 1 ∧ ¬ (15 : Int32) < nI a from ⟨nI_nlt (a := a) (b := 1) (by omega) (by omega), nI_nlt (a := 15) (b := a) (by omega) (by omega)⟩)]
    refine w_if_eq (tgt := 54) dX7_isShared_12 (by decide) (fun c_12 => absurd c_12 ((by decide))) (fun c_12 => ?_)
    refine w_aload_n dX7_isShared_15 rfl ?_
    refine x_geti (ci := 7) (k := 16) dX7_isShared_16 rfl (by decide) (by decide) (by omega) fl_X7_225 rfl ?_
    rw [h.2.2.2.1.2.2]
    refine w_iload_n dX7_isShared_19 rfl ?_
    refine y_callS dX7_isShared_20 lk_X7_313 [.int (nI A.ru.2.2), .int (nI a)] rfl (m_has E l _ (by omega) (by omega)) rfl ⟨⟨by decide, by decide⟩, by decide, by decide⟩ (lb rfl) ?_
    refine w_if_eq (tgt := 54) dX7_isShared_23 (by decide) (fun c_23 => ?_) (fun c_23 => ?_)
    · refine w_iconst (v := 0) dX7_isShared_54 (by decide) ?_
      refine w_iret dX7_isShared_55 rfl rfl (by first | exact ⟨rt_t (hb.mpr ⟨n_ne c_2, h1, h15, b2i_ne.mp c_23, n_nlt c_35, n_nlt c_47⟩), rfl⟩ | exact ⟨rt_f (hno _ (fun q => q.2.2.2.2.2) (by have := n_lt c_47; omega)), rfl⟩ | exact ⟨rt_f (hno _ (fun q => q.2.2.2.2.1) (by have := n_lt c_35; omega)), rfl⟩ | exact ⟨rt_f (hno _ (fun q => q.2.2.2.1) (by rw [b2i_0.mp c_23]; decide)), rfl⟩ | exact ⟨rt_f (hno _ (fun q => q.1) (fun q => q (n_eq c_2))), rfl⟩) (by decide) (by decide)
    · refine w_aload_n dX7_isShared_26 rfl ?_
      refine x_getr (ci := 7) (k := 0) (a := 80) dX7_isShared_27 rfl (by decide) (by decide) (by omega) fl_X7_7 (Or.inr ⟨_, rfl⟩) hR.2.1 ?_
      refine w_iconst (v := 5) dX7_isShared_30 (by decide) ?_
      refine w_iload_n dX7_isShared_31 rfl ?_
      refine w_iadd dX7_isShared_32 ?_
      rw [show (5 : Int32) + nI k = nI (5 + k) from by rw [← nI_add]; rfl]
      refine x_iald (j := 5 + k) dX7_isShared_33 rfl (by omega) rfl (show 5 + k < 172 by omega) ?_
      rw [d1]
      refine w_iload_n dX7_isShared_34 rfl ?_
      refine w_icmp_lt (tgt := 54) dX7_isShared_35 (by decide) (fun c_35 => ?_) (fun c_35 => ?_)
      · refine w_iconst (v := 0) dX7_isShared_54 (by decide) ?_
        refine w_iret dX7_isShared_55 rfl rfl (by first | exact ⟨rt_t (hb.mpr ⟨n_ne c_2, h1, h15, b2i_ne.mp c_23, n_nlt c_35, n_nlt c_47⟩), rfl⟩ | exact ⟨rt_f (hno _ (fun q => q.2.2.2.2.2) (by have := n_lt c_47; omega)), rfl⟩ | exact ⟨rt_f (hno _ (fun q => q.2.2.2.2.1) (by have := n_lt c_35; omega)), rfl⟩ | exact ⟨rt_f (hno _ (fun q => q.2.2.2.1) (by rw [b2i_0.mp c_23]; decide)), rfl⟩ | exact ⟨rt_f (hno _ (fun q => q.1) (fun q => q (n_eq c_2))), rfl⟩) (by decide) (by decide)
      · refine w_aload_n dX7_isShared_38 rfl ?_
        refine x_getr (ci := 7) (k := 0) (a := 80) dX7_isShared_39 rfl (by decide) (by decide) (by omega) fl_X7_7 (Or.inr ⟨_, rfl⟩) hR.2.1 ?_
        refine w_iconst (v := 5) dX7_isShared_42 (by decide) ?_
        refine w_iload_n dX7_isShared_43 rfl ?_
        refine w_iadd dX7_isShared_44 ?_
        rw [show (5 : Int32) + nI o = nI (5 + o) from by rw [← nI_add]; rfl]
        refine x_iald (j := 5 + o) dX7_isShared_45 rfl (by omega) rfl (show 5 + o < 172 by omega) ?_
        rw [d2]
        refine w_iload_n dX7_isShared_46 rfl ?_
        refine w_icmp_lt (tgt := 54) dX7_isShared_47 (by decide) (fun c_47 => ?_) (fun c_47 => ?_)
        · refine w_iconst (v := 0) dX7_isShared_54 (by decide) ?_
          refine w_iret dX7_isShared_55 rfl rfl (by first | exact ⟨rt_t (hb.mpr ⟨n_ne c_2, h1, h15, b2i_ne.mp c_23, n_nlt c_35, n_nlt c_47⟩), rfl⟩ | exact ⟨rt_f (hno _ (fun q => q.2.2.2.2.2) (by have := n_lt c_47; omega)), rfl⟩ | exact ⟨rt_f (hno _ (fun q => q.2.2.2.2.1) (by have := n_lt c_35; omega)), rfl⟩ | exact ⟨rt_f (hno _ (fun q => q.2.2.2.1) (by rw [b2i_0.mp c_23]; decide)), rfl⟩ | exact ⟨rt_f (hno _ (fun q => q.1) (fun q => q (n_eq c_2))), rfl⟩) (by decide) (by decide)
        · refine w_iconst (v := 1) dX7_isShared_50 (by decide) ?_
          refine w_goto (tgt := 55) dX7_isShared_51 (by decide) ?_
          refine w_iret dX7_isShared_55 rfl rfl (by first | exact ⟨rt_t (hb.mpr ⟨n_ne c_2, h1, h15, b2i_ne.mp c_23, n_nlt c_35, n_nlt c_47⟩), rfl⟩ | exact ⟨rt_f (hno _ (fun q => q.2.2.2.2.2) (by have := n_lt c_47; omega)), rfl⟩ | exact ⟨rt_f (hno _ (fun q => q.2.2.2.2.1) (by have := n_lt c_35; omega)), rfl⟩ | exact ⟨rt_f (hno _ (fun q => q.2.2.2.1) (by rw [b2i_0.mp c_23]; decide)), rfl⟩ | exact ⟨rt_f (hno _ (fun q => q.1) (fun q => q (n_eq c_2))), rfl⟩) (by decide) (by decide)
set_option maxRecDepth 100000 in
theorem m_takeBoth_x1 (hR : lkM R N) (hA : aOK A) (h : rM I A c) {x : Int32} (hx : x < 0 ∨ ¬ x < nI A.st.hs.length) (y z : Int32) : g_Ct E l mX7_takeBoth 3 71 0 0 [.ref 79, .int x, .int y, .int z] (I, J, R, D, N, ex) (g_is (some (.int 0)) (up2 (up2 I 79 17 0) 79 17 1, J, R, D, N, ex)) := by
  refine g_Ct.of (by decide +kernel) (lb rfl) ?_
  have hN := hR.1
  have h9 := h.thr 0
  have z9 : up2 I 79 17 0 79 17 = 0 := up2_s ..
  refine w_aload_n dX7_takeBoth_0 rfl ?_
  refine w_iconst (v := 0) dX7_takeBoth_1 (by decide) ?_
  refine x_puti (ci := 7) (k := 17) dX7_takeBoth_2 rfl (by decide) (by decide) (by omega) fl_X7_73 rfl rfl ?_
  refine w_aload_n dX7_takeBoth_5 rfl ?_
  refine w_iload_n dX7_takeBoth_6 rfl ?_
  refine y_callV dX7_takeBoth_7 lk_X7_378 [.int x] rfl (m_mayHeap_f E l hR z9 h9.1.1 hA.2.2.1.1 hx) (g_recv.obj (ci := 7) rfl (by decide) (show 79 < N by omega)) rfl ⟨⟨by decide, by decide⟩, by decide, by decide⟩ (lb rfl) ?_
  refine w_if_eq (tgt := 36) dX7_takeBoth_10 (by decide) (fun c_10 => ?_) (fun c_10 => absurd (rfl) c_10)
  refine w_iconst (v := 0) dX7_takeBoth_36 (by decide) ?_
  refine w_iret dX7_takeBoth_37 rfl rfl ⟨rfl, rfl⟩ (by decide) (by decide)
set_option maxRecDepth 100000 in
theorem m_takeBoth_x2 (hR : lkM R N) (hA : aOK A) (h : rM I A c) {k : Nat} (hk : k < A.st.hs.length) {x : Int32} (hx : x < 0 ∨ ¬ x < nI A.st.hs.length) (z : Int32) : g_Ct E l mX7_takeBoth 3 71 0 0 [.ref 79, .int (nI k), .int x, .int z] (I, J, R, D, N, ex) (g_is (some (.int 0)) (up2 (up2 I 79 17 0) 79 17 1, J, R, D, N, ex)) := by
  refine g_Ct.of (by decide +kernel) (lb rfl) ?_
  have hN := hR.1
  have h9 := h.thr 0
  have z9 : up2 I 79 17 0 79 17 = 0 := up2_s ..
  refine w_aload_n dX7_takeBoth_0 rfl ?_
  refine w_iconst (v := 0) dX7_takeBoth_1 (by decide) ?_
  refine x_puti (ci := 7) (k := 17) dX7_takeBoth_2 rfl (by decide) (by decide) (by omega) fl_X7_73 rfl rfl ?_
  refine w_aload_n dX7_takeBoth_5 rfl ?_
  refine w_iload_n dX7_takeBoth_6 rfl ?_
  refine y_callV dX7_takeBoth_7 lk_X7_378 [.int (nI k)] rfl (m_mayHeap_t E l hR z9 h9.1.1 hA.2.2.1.1 hk) (g_recv.obj (ci := 7) rfl (by decide) (show 79 < N by omega)) rfl ⟨⟨by decide, by decide⟩, by decide, by decide⟩ (lb rfl) ?_
  refine w_if_eq (tgt := 36) dX7_takeBoth_10 (by decide) (fun c_10 => absurd c_10 ((by decide))) (fun c_10 => ?_)
  refine w_aload_n dX7_takeBoth_13 rfl ?_
  refine w_iload_n dX7_takeBoth_14 rfl ?_
  refine y_callV dX7_takeBoth_15 lk_X7_378 [.int x] rfl (m_mayHeap_f E l hR z9 h9.1.1 hA.2.2.1.1 hx) (g_recv.obj (ci := 7) rfl (by decide) (show 79 < N by omega)) rfl ⟨⟨by decide, by decide⟩, by decide, by decide⟩ (lb rfl) ?_
  refine w_if_eq (tgt := 36) dX7_takeBoth_18 (by decide) (fun c_18 => ?_) (fun c_18 => absurd (rfl) c_18)
  refine w_iconst (v := 0) dX7_takeBoth_36 (by decide) ?_
  refine w_iret dX7_takeBoth_37 rfl rfl ⟨rfl, rfl⟩ (by decide) (by decide)
set_option maxRecDepth 100000 in
theorem m_takeBoth_x3 (hR : lkM R N) (hA : aOK A) (h : rM I A c) {k o : Nat} (hk : k < A.st.hs.length) (ho : o < A.st.hs.length) {z : Int32} (hz : ¬ ∃ a, z = nI a ∧ bothOK A k o a) : g_Ct E l mX7_takeBoth 3 71 0 0 [.ref 79, .int (nI k), .int (nI o), .int z] (I, J, R, D, N, ex) (g_is (some (.int 0)) (up2 (up2 I 79 17 0) 79 17 2, J, R, D, N, ex)) := by
  refine g_Ct.of (by decide +kernel) (lb rfl) ?_
  have hN := hR.1
  have h9 := h.thr 0
  have z9 : up2 I 79 17 0 79 17 = 0 := up2_s ..
  have hsh : g_Ct E l mX7_isShared 1 22 0 0 [.ref 79, .int (nI k), .int (nI o), .int z] (up2 I 79 17 0, J, R, D, N, ex) (g_is (some (.int (b2i false))) (up2 I 79 17 0, J, R, D, N, ex)) := by
    by_cases hr : ¬ z < 1 ∧ ¬ 15 < z
    · obtain ⟨a, a1, a2, rfl⟩ := i_1n (n := 15) (by decide) hr.1 (Int32.not_lt.mp hr.2)
      exact m_isShared E l hR hA h9 hk ho a1 a2 (b := false) ⟨(fun q => by cases q), fun q => absurd ⟨a, rfl, q⟩ hz⟩
    · exact m_isShared_r E l hR _ _ hr
  refine w_aload_n dX7_takeBoth_0 rfl ?_
  refine w_iconst (v := 0) dX7_takeBoth_1 (by decide) ?_
  refine x_puti (ci := 7) (k := 17) dX7_takeBoth_2 rfl (by decide) (by decide) (by omega) fl_X7_73 rfl rfl ?_
  refine w_aload_n dX7_takeBoth_5 rfl ?_
  refine w_iload_n dX7_takeBoth_6 rfl ?_
  refine y_callV dX7_takeBoth_7 lk_X7_378 [.int (nI k)] rfl (m_mayHeap_t E l hR z9 h9.1.1 hA.2.2.1.1 hk) (g_recv.obj (ci := 7) rfl (by decide) (show 79 < N by omega)) rfl ⟨⟨by decide, by decide⟩, by decide, by decide⟩ (lb rfl) ?_
  refine w_if_eq (tgt := 36) dX7_takeBoth_10 (by decide) (fun c_10 => absurd c_10 ((by decide))) (fun c_10 => ?_)
  refine w_aload_n dX7_takeBoth_13 rfl ?_
  refine w_iload_n dX7_takeBoth_14 rfl ?_
  refine y_callV dX7_takeBoth_15 lk_X7_378 [.int (nI o)] rfl (m_mayHeap_t E l hR z9 h9.1.1 hA.2.2.1.1 ho) (g_recv.obj (ci := 7) rfl (by decide) (show 79 < N by omega)) rfl ⟨⟨by decide, by decide⟩, by decide, by decide⟩ (lb rfl) ?_
  refine w_if_eq (tgt := 36) dX7_takeBoth_18 (by decide) (fun c_18 => absurd c_18 ((by decide))) (fun c_18 => ?_)
  refine w_aload_n dX7_takeBoth_21 rfl ?_
  refine w_aload_n dX7_takeBoth_22 rfl ?_
  refine w_iload_n dX7_takeBoth_23 rfl ?_
  refine w_iload_n dX7_takeBoth_24 rfl ?_
  refine w_iload_n dX7_takeBoth_25 rfl ?_
  refine y_callV dX7_takeBoth_26 lk_X7_397 [.int (nI k), .int (nI o), .int z] rfl hsh (g_recv.obj (ci := 7) rfl (by decide) (show 79 < N by omega)) rfl ⟨⟨by decide, by decide⟩, by decide, by decide⟩ (lb rfl) ?_
  refine w_iconst (v := 2) dX7_takeBoth_29 (by decide) ?_
  refine y_callV dX7_takeBoth_30 lk_X7_256 [.int 0, .int 2] rfl (m_may_f E l (by omega) z9 (by decide)) (g_recv.obj (ci := 7) rfl (by decide) (show 79 < N by omega)) rfl ⟨⟨by decide, by decide⟩, by decide, by decide⟩ (lb rfl) ?_
  refine w_if_ne (tgt := 38) dX7_takeBoth_33 (by decide) (fun c_33 => absurd (rfl) c_33) (fun c_33 => ?_)
  refine w_iconst (v := 0) dX7_takeBoth_36 (by decide) ?_
  refine w_iret dX7_takeBoth_37 rfl rfl ⟨rfl, rfl⟩ (by decide) (by decide)
set_option maxRecDepth 100000 in
theorem m_takeBoth_full (hR : lkM R N) (hA : aOK A) (h : rM I A c) {k o a : Nat} (hk : k < A.st.hs.length) (ho : o < A.st.hs.length) (hb : bothOK A k o a) (hf : A.st.pl.length = 40) : g_Ct E l mX7_takeBoth 3 71 0 0 [.ref 79, .int (nI k), .int (nI o), .int (nI a)] (I, J, R, D, N, ex) (g_ri (fun y I' => y = -1 ∧ qP I A c 0 I') J R D N ex) := by
  refine g_Ct.of (by decide +kernel) (lb rfl) ?_
  have hN := hR.1
  have h9 := h.thr 0
  have z9 : up2 I 79 17 0 79 17 = 0 := up2_s ..
  have hs := hA.2.2.1
  have l4 := hs.1
  have l40 := hs.2.2.2.1
  refine w_aload_n dX7_takeBoth_0 rfl ?_
  refine w_iconst (v := 0) dX7_takeBoth_1 (by decide) ?_
  refine x_puti (ci := 7) (k := 17) dX7_takeBoth_2 rfl (by decide) (by decide) (by omega) fl_X7_73 rfl rfl ?_
  refine w_aload_n dX7_takeBoth_5 rfl ?_
  refine w_iload_n dX7_takeBoth_6 rfl ?_
  refine y_callV dX7_takeBoth_7 lk_X7_378 [.int (nI k)] rfl (m_mayHeap_t E l hR z9 h9.1.1 hA.2.2.1.1 hk) (g_recv.obj (ci := 7) rfl (by decide) (show 79 < N by omega)) rfl ⟨⟨by decide, by decide⟩, by decide, by decide⟩ (lb rfl) ?_
  refine w_if_eq (tgt := 36) dX7_takeBoth_10 (by decide) (fun c_10 => absurd c_10 ((by decide))) (fun c_10 => ?_)
  refine w_aload_n dX7_takeBoth_13 rfl ?_
  refine w_iload_n dX7_takeBoth_14 rfl ?_
  refine y_callV dX7_takeBoth_15 lk_X7_378 [.int (nI o)] rfl (m_mayHeap_t E l hR z9 h9.1.1 hA.2.2.1.1 ho) (g_recv.obj (ci := 7) rfl (by decide) (show 79 < N by omega)) rfl ⟨⟨by decide, by decide⟩, by decide, by decide⟩ (lb rfl) ?_
  refine w_if_eq (tgt := 36) dX7_takeBoth_18 (by decide) (fun c_18 => absurd c_18 ((by decide))) (fun c_18 => ?_)
  refine w_aload_n dX7_takeBoth_21 rfl ?_
  refine w_aload_n dX7_takeBoth_22 rfl ?_
  refine w_iload_n dX7_takeBoth_23 rfl ?_
  refine w_iload_n dX7_takeBoth_24 rfl ?_
  refine w_iload_n dX7_takeBoth_25 rfl ?_
  refine y_callV dX7_takeBoth_26 lk_X7_397 [.int (nI k), .int (nI o), .int (nI a)] rfl (m_isShared E l hR hA h9 hk ho hb.2.1 hb.2.2.1 (b := true) ⟨fun _ => hb, fun _ => rfl⟩) (g_recv.obj (ci := 7) rfl (by decide) (show 79 < N by omega)) rfl ⟨⟨by decide, by decide⟩, by decide, by decide⟩ (lb rfl) ?_
  refine w_iconst (v := 2) dX7_takeBoth_29 (by decide) ?_
  refine y_callV dX7_takeBoth_30 lk_X7_256 [.int 1, .int 2] rfl (m_may_t E l (by omega) z9 2) (g_recv.obj (ci := 7) rfl (by decide) (show 79 < N by omega)) rfl ⟨⟨by decide, by decide⟩, by decide, by decide⟩ (lb rfl) ?_
  refine w_if_ne (tgt := 38) dX7_takeBoth_33 (by decide) (fun c_33 => ?_) (fun c_33 => absurd c_33 ((by decide)))
  refine w_aload_n dX7_takeBoth_38 rfl ?_
  refine y_callV dX7_takeBoth_39 lk_X7_390 [] rfl (m_isFull E l hR h9.1.2.2.2.2.1 l40) (g_recv.obj (ci := 7) rfl (by decide) (show 79 < N by omega)) rfl ⟨⟨by decide, by decide⟩, by decide, by decide⟩ (lb rfl) ?_
  refine w_if_eq (tgt := 47) dX7_takeBoth_42 (by decide) (fun c_42 => absurd c_42 ((by rw [decide_eq_true hf]; decide))) (fun c_42 => ?_)
  refine w_iconst (v := (-1)) dX7_takeBoth_45 (by decide) ?_
  refine w_iret dX7_takeBoth_46 rfl rfl ⟨_, _, rfl, ⟨rfl, qP.at0 h 0⟩, rfl⟩ (by decide) (by decide)
set_option maxRecDepth 100000 in
theorem m_takeBoth (hR : lkM R N) (hA : aOK A) (h : rM I A c) {k o a : Nat} (hk : k < A.st.hs.length) (ho : o < A.st.hs.length) (hb : bothOK A k o a) (hf : A.st.pl.length < 40) : g_Ct E l mX7_takeBoth 3 71 0 0 [.ref 79, .int (nI k), .int (nI o), .int (nI a)] (I, J, R, D, N, ex) (g_ri (fun y I' => y = nI (saS (A.st.play (Mv.both (min k o) (max k o) a)) A.st.hs.length) ∧ qP I (A.rec (A.st.play (Mv.both (min k o) (max k o) a))) c 0 I') J R D N ex) := by
  refine g_Ct.of (by decide +kernel) (lb rfl) ?_
  have hN := hR.1
  have h9 := h.thr 0
  have z9 : up2 I 79 17 0 79 17 = 0 := up2_s ..
  have hs := hA.2.2.1
  have l4 := hs.1
  have l40 := hs.2.2.2.1
  obtain ⟨b1, b2, b3, b4, b5, b6⟩ := hb
  have hb : bothOK A k o a := ⟨b1, b2, b3, b4, b5, b6⟩
  have hpl : mvW (Mv.both (min k o) (max k o) a) ∧ playOK A.st (Mv.both (min k o) (max k o) a) := by
    rcases Nat.lt_or_gt_of_ne b1 with q | q
    · rw [Nat.min_eq_left (Nat.le_of_lt q), Nat.max_eq_right (Nat.le_of_lt q)]
      exact ⟨⟨q, (by omega : o < 4), b2, b3⟩, q, ho, b2, b5, b6⟩
    · rw [Nat.min_eq_right (Nat.le_of_lt q), Nat.max_eq_left (Nat.le_of_lt q)]
      exact ⟨⟨q, (by omega : k < 4), b2, b3⟩, q, hk, b2, b6, b5⟩
  have hle : (A.st.play (Mv.both (min k o) (max k o) a)).hs.length = A.st.hs.length := by show ((A.st.put _ _).put _ _).hs.length = _; rw [put_len, put_len]
  have loop : ∀ (f j : Nat) (I' : Nat → Nat → Int32), j + f = A.st.hs.length → qP I (A.rec (A.st.play (Mv.both (min k o) (max k o) a))) c 0 I' → g_Wp E l mX7_takeBoth { frames := 3, cells := 0, slots := 0, locals := 71 } (g_Fin E (g_ri (fun y I' => y = nI (saS (A.st.play (Mv.both (min k o) (max k o) a)) A.st.hs.length) ∧ qP I (A.rec (A.st.play (Mv.both (min k o) (max k o) a))) c 0 I') J R D N ex) 0 0) 0 0 79 [(5, .int (nI j)), (4, .int (nI (saS (A.st.play (Mv.both (min k o) (max k o) a)) j))), (0, .ref 79), (1, .int (nI k)), (2, .int (nI o)), (3, .int (nI a))] [] (I', J, R, D, N, ex) := by
    intro f
    induction f with
    | zero =>
      intro j I' hj g
      obtain rfl : j = A.st.hs.length := by omega
      refine w_iload dX7_takeBoth_79 rfl ?_
      refine w_aload_n dX7_takeBoth_81 rfl ?_
      refine x_getr (ci := 7) (k := 0) (a := 80) dX7_takeBoth_82 rfl (by decide) (by decide) (by omega) fl_X7_7 (Or.inr ⟨_, rfl⟩) hR.2.1 ?_
      refine w_iconst (v := 0) dX7_takeBoth_85 (by decide) ?_
      refine x_iald (j := 0) dX7_takeBoth_86 rfl (by omega) rfl (show 0 < 172 by decide) ?_
      rw [show I' 80 0 = nI A.st.hs.length from g.2.2.1.1.trans (congrArg nI hle)]
      refine w_icmp_ge (tgt := 110) dX7_takeBoth_87 (by decide) (fun c_87 => ?_) (fun c_87 => absurd ((nI_le (by omega) (by omega))) c_87)
      refine w_iload dX7_takeBoth_110 rfl ?_
      refine w_iret dX7_takeBoth_112 rfl rfl ⟨_, _, rfl, ⟨rfl, g⟩, rfl⟩ (by decide) (by decide)
    | succ f ih =>
      intro j I' hj g
      have t9 := ih (j + 1) I' (by omega) g
      rw [saS] at t9
      have d5 := (g.2.2.1.2.1 j (by show j < (A.st.play (Mv.both (min k o) (max k o) a)).hs.length; omega)).2
      rw [show 0 + 5 + j = 5 + j by omega] at d5
      refine w_iload dX7_takeBoth_79 rfl ?_
      refine w_aload_n dX7_takeBoth_81 rfl ?_
      refine x_getr (ci := 7) (k := 0) (a := 80) dX7_takeBoth_82 rfl (by decide) (by decide) (by omega) fl_X7_7 (Or.inr ⟨_, rfl⟩) hR.2.1 ?_
      refine w_iconst (v := 0) dX7_takeBoth_85 (by decide) ?_
      refine x_iald (j := 0) dX7_takeBoth_86 rfl (by omega) rfl (show 0 < 172 by decide) ?_
      rw [show I' 80 0 = nI A.st.hs.length from g.2.2.1.1.trans (congrArg nI hle)]
      refine w_icmp_ge (tgt := 110) dX7_takeBoth_87 (by decide) (fun c_87 => absurd c_87 ((nI_ge (by omega) (by omega)))) (fun c_87 => ?_)
      refine w_iload dX7_takeBoth_90 rfl ?_
      refine w_aload_n dX7_takeBoth_92 rfl ?_
      refine x_getr (ci := 7) (k := 0) (a := 80) dX7_takeBoth_93 rfl (by decide) (by decide) (by omega) fl_X7_7 (Or.inr ⟨_, rfl⟩) hR.2.1 ?_
      refine w_iconst (v := 5) dX7_takeBoth_96 (by decide) ?_
      refine w_iload dX7_takeBoth_97 rfl ?_
      refine w_iadd dX7_takeBoth_99 ?_
      rw [show (5 : Int32) + nI j = nI (5 + j) from by rw [← nI_add]; rfl]
      refine x_iald (j := 5 + j) dX7_takeBoth_100 rfl (by omega) rfl (show 5 + j < 172 by omega) ?_
      rw [d5]
      refine w_iadd dX7_takeBoth_101 ?_
      rw [nI_add]
      refine w_istore dX7_takeBoth_102 (by decide) rfl ?_
      refine w_iinc (v := nI (j + 1)) dX7_takeBoth_104 rfl (nI_inc _) (by decide) rfl ?_
      refine w_goto (tgt := 79) dX7_takeBoth_107 (by decide) ?_
      exact w_lv [5, 4, 0, 1, 2, 3] t9
  rcases Nat.lt_or_gt_of_ne b1 with q | q
  · have e1 : min k o = k := Nat.min_eq_left (Nat.le_of_lt q)
    have e2 : max k o = o := Nat.max_eq_right (Nat.le_of_lt q)
    rw [e1, e2] at loop hpl
    rw [e1, e2]
    refine w_aload_n dX7_takeBoth_0 rfl ?_
    refine w_iconst (v := 0) dX7_takeBoth_1 (by decide) ?_
    refine x_puti (ci := 7) (k := 17) dX7_takeBoth_2 rfl (by decide) (by decide) (by omega) fl_X7_73 rfl rfl ?_
    refine w_aload_n dX7_takeBoth_5 rfl ?_
    refine w_iload_n dX7_takeBoth_6 rfl ?_
    refine y_callV dX7_takeBoth_7 lk_X7_378 [.int (nI k)] rfl (m_mayHeap_t E l hR z9 h9.1.1 hA.2.2.1.1 hk) (g_recv.obj (ci := 7) rfl (by decide) (show 79 < N by omega)) rfl ⟨⟨by decide, by decide⟩, by decide, by decide⟩ (lb rfl) ?_
    refine w_if_eq (tgt := 36) dX7_takeBoth_10 (by decide) (fun c_10 => absurd c_10 ((by decide))) (fun c_10 => ?_)
    refine w_aload_n dX7_takeBoth_13 rfl ?_
    refine w_iload_n dX7_takeBoth_14 rfl ?_
    refine y_callV dX7_takeBoth_15 lk_X7_378 [.int (nI o)] rfl (m_mayHeap_t E l hR z9 h9.1.1 hA.2.2.1.1 ho) (g_recv.obj (ci := 7) rfl (by decide) (show 79 < N by omega)) rfl ⟨⟨by decide, by decide⟩, by decide, by decide⟩ (lb rfl) ?_
    refine w_if_eq (tgt := 36) dX7_takeBoth_18 (by decide) (fun c_18 => absurd c_18 ((by decide))) (fun c_18 => ?_)
    refine w_aload_n dX7_takeBoth_21 rfl ?_
    refine w_aload_n dX7_takeBoth_22 rfl ?_
    refine w_iload_n dX7_takeBoth_23 rfl ?_
    refine w_iload_n dX7_takeBoth_24 rfl ?_
    refine w_iload_n dX7_takeBoth_25 rfl ?_
    refine y_callV dX7_takeBoth_26 lk_X7_397 [.int (nI k), .int (nI o), .int (nI a)] rfl (m_isShared E l hR hA h9 hk ho hb.2.1 hb.2.2.1 (b := true) ⟨fun _ => hb, fun _ => rfl⟩) (g_recv.obj (ci := 7) rfl (by decide) (show 79 < N by omega)) rfl ⟨⟨by decide, by decide⟩, by decide, by decide⟩ (lb rfl) ?_
    refine w_iconst (v := 2) dX7_takeBoth_29 (by decide) ?_
    refine y_callV dX7_takeBoth_30 lk_X7_256 [.int 1, .int 2] rfl (m_may_t E l (by omega) z9 2) (g_recv.obj (ci := 7) rfl (by decide) (show 79 < N by omega)) rfl ⟨⟨by decide, by decide⟩, by decide, by decide⟩ (lb rfl) ?_
    refine w_if_ne (tgt := 38) dX7_takeBoth_33 (by decide) (fun c_33 => ?_) (fun c_33 => absurd c_33 ((by decide)))
    refine w_aload_n dX7_takeBoth_38 rfl ?_
    refine y_callV dX7_takeBoth_39 lk_X7_390 [] rfl (m_isFull E l hR h9.1.2.2.2.2.1 l40) (g_recv.obj (ci := 7) rfl (by decide) (show 79 < N by omega)) rfl ⟨⟨by decide, by decide⟩, by decide, by decide⟩ (lb rfl) ?_
    refine w_if_eq (tgt := 47) dX7_takeBoth_42 (by decide) (fun c_42 => ?_) (fun c_42 => absurd ((by rw [decide_eq_false (by omega)]; rfl)) c_42)
    refine w_aload_n dX7_takeBoth_47 rfl ?_
    refine w_iconst (v := 1) dX7_takeBoth_48 (by decide) ?_
    refine w_iload_n dX7_takeBoth_49 rfl ?_
    refine w_iload_n dX7_takeBoth_50 rfl ?_
    refine w_icmp_ge (tgt := 58) dX7_takeBoth_51 (by decide) (fun c_51 => absurd c_51 ((nI_ge (by omega) (by omega)))) (fun c_51 => ?_)
    refine w_iload_n dX7_takeBoth_54 rfl ?_
    refine w_goto (tgt := 59) dX7_takeBoth_55 (by decide) ?_
    refine w_iload_n dX7_takeBoth_59 rfl ?_
    refine w_iload_n dX7_takeBoth_60 rfl ?_
    refine w_icmp_ge (tgt := 68) dX7_takeBoth_61 (by decide) (fun c_61 => absurd c_61 ((nI_ge (by omega) (by omega)))) (fun c_61 => ?_)
    refine w_iload_n dX7_takeBoth_64 rfl ?_
    refine w_goto (tgt := 69) dX7_takeBoth_65 (by decide) ?_
    refine w_iload_n dX7_takeBoth_69 rfl ?_
    refine u_callV dX7_takeBoth_70 lk_X7_393 [.int (deS (Mv.both k o a) 0), .int (deS (Mv.both k o a) 1), .int (deS (Mv.both k o a) 2), .int (deS (Mv.both k o a) 3)] rfl (m_plays E l hR hA h9 (m := Mv.both k o a) hpl.1 hpl.2 hf) (g_recv.obj (ci := 7) rfl (by decide) (show 79 < N by omega)) rfl ⟨⟨by decide, by decide⟩, by decide, by decide⟩ (lb rfl) (fun I2 h_70 => ?_)
    obtain ⟨k1, k2⟩ := h_70
    refine w_iconst (v := 0) dX7_takeBoth_73 (by decide) ?_
    refine w_istore dX7_takeBoth_74 (by decide) rfl ?_
    refine w_iconst (v := 0) dX7_takeBoth_76 (by decide) ?_
    refine w_istore dX7_takeBoth_77 (by decide) rfl ?_
    exact w_lv [5, 4, 0, 1, 2, 3] (loop A.st.hs.length 0 I2 (by omega) (qP.of k1 (k2.up (Nat.le_succ c))))
  · have e1 : min k o = o := Nat.min_eq_right (Nat.le_of_lt q)
    have e2 : max k o = k := Nat.max_eq_left (Nat.le_of_lt q)
    rw [e1, e2] at loop hpl
    rw [e1, e2]
    refine w_aload_n dX7_takeBoth_0 rfl ?_
    refine w_iconst (v := 0) dX7_takeBoth_1 (by decide) ?_
    refine x_puti (ci := 7) (k := 17) dX7_takeBoth_2 rfl (by decide) (by decide) (by omega) fl_X7_73 rfl rfl ?_
    refine w_aload_n dX7_takeBoth_5 rfl ?_
    refine w_iload_n dX7_takeBoth_6 rfl ?_
    refine y_callV dX7_takeBoth_7 lk_X7_378 [.int (nI k)] rfl (m_mayHeap_t E l hR z9 h9.1.1 hA.2.2.1.1 hk) (g_recv.obj (ci := 7) rfl (by decide) (show 79 < N by omega)) rfl ⟨⟨by decide, by decide⟩, by decide, by decide⟩ (lb rfl) ?_
    refine w_if_eq (tgt := 36) dX7_takeBoth_10 (by decide) (fun c_10 => absurd c_10 ((by decide))) (fun c_10 => ?_)
    refine w_aload_n dX7_takeBoth_13 rfl ?_
    refine w_iload_n dX7_takeBoth_14 rfl ?_
    refine y_callV dX7_takeBoth_15 lk_X7_378 [.int (nI o)] rfl (m_mayHeap_t E l hR z9 h9.1.1 hA.2.2.1.1 ho) (g_recv.obj (ci := 7) rfl (by decide) (show 79 < N by omega)) rfl ⟨⟨by decide, by decide⟩, by decide, by decide⟩ (lb rfl) ?_
    refine w_if_eq (tgt := 36) dX7_takeBoth_18 (by decide) (fun c_18 => absurd c_18 ((by decide))) (fun c_18 => ?_)
    refine w_aload_n dX7_takeBoth_21 rfl ?_
    refine w_aload_n dX7_takeBoth_22 rfl ?_
    refine w_iload_n dX7_takeBoth_23 rfl ?_
    refine w_iload_n dX7_takeBoth_24 rfl ?_
    refine w_iload_n dX7_takeBoth_25 rfl ?_
    refine y_callV dX7_takeBoth_26 lk_X7_397 [.int (nI k), .int (nI o), .int (nI a)] rfl (m_isShared E l hR hA h9 hk ho hb.2.1 hb.2.2.1 (b := true) ⟨fun _ => hb, fun _ => rfl⟩) (g_recv.obj (ci := 7) rfl (by decide) (show 79 < N by omega)) rfl ⟨⟨by decide, by decide⟩, by decide, by decide⟩ (lb rfl) ?_
    refine w_iconst (v := 2) dX7_takeBoth_29 (by decide) ?_
    refine y_callV dX7_takeBoth_30 lk_X7_256 [.int 1, .int 2] rfl (m_may_t E l (by omega) z9 2) (g_recv.obj (ci := 7) rfl (by decide) (show 79 < N by omega)) rfl ⟨⟨by decide, by decide⟩, by decide, by decide⟩ (lb rfl) ?_
    refine w_if_ne (tgt := 38) dX7_takeBoth_33 (by decide) (fun c_33 => ?_) (fun c_33 => absurd c_33 ((by decide)))
    refine w_aload_n dX7_takeBoth_38 rfl ?_
    refine y_callV dX7_takeBoth_39 lk_X7_390 [] rfl (m_isFull E l hR h9.1.2.2.2.2.1 l40) (g_recv.obj (ci := 7) rfl (by decide) (show 79 < N by omega)) rfl ⟨⟨by decide, by decide⟩, by decide, by decide⟩ (lb rfl) ?_
    refine w_if_eq (tgt := 47) dX7_takeBoth_42 (by decide) (fun c_42 => ?_) (fun c_42 => absurd ((by rw [decide_eq_false (by omega)]; rfl)) c_42)
    refine w_aload_n dX7_takeBoth_47 rfl ?_
    refine w_iconst (v := 1) dX7_takeBoth_48 (by decide) ?_
    refine w_iload_n dX7_takeBoth_49 rfl ?_
    refine w_iload_n dX7_takeBoth_50 rfl ?_
    refine w_icmp_ge (tgt := 58) dX7_takeBoth_51 (by decide) (fun c_51 => ?_) (fun c_51 => absurd ((nI_le (by omega) (by omega))) c_51)
    refine w_iload_n dX7_takeBoth_58 rfl ?_
    refine w_iload_n dX7_takeBoth_59 rfl ?_
    refine w_iload_n dX7_takeBoth_60 rfl ?_
    refine w_icmp_ge (tgt := 68) dX7_takeBoth_61 (by decide) (fun c_61 => ?_) (fun c_61 => absurd ((nI_le (by omega) (by omega))) c_61)
    refine w_iload_n dX7_takeBoth_68 rfl ?_
    refine w_iload_n dX7_takeBoth_69 rfl ?_
    refine u_callV dX7_takeBoth_70 lk_X7_393 [.int (deS (Mv.both o k a) 0), .int (deS (Mv.both o k a) 1), .int (deS (Mv.both o k a) 2), .int (deS (Mv.both o k a) 3)] rfl (m_plays E l hR hA h9 (m := Mv.both o k a) hpl.1 hpl.2 hf) (g_recv.obj (ci := 7) rfl (by decide) (show 79 < N by omega)) rfl ⟨⟨by decide, by decide⟩, by decide, by decide⟩ (lb rfl) (fun I2 h_70 => ?_)
    obtain ⟨k1, k2⟩ := h_70
    refine w_iconst (v := 0) dX7_takeBoth_73 (by decide) ?_
    refine w_istore dX7_takeBoth_74 (by decide) rfl ?_
    refine w_iconst (v := 0) dX7_takeBoth_76 (by decide) ?_
    refine w_istore dX7_takeBoth_77 (by decide) rfl ?_
    exact w_lv [5, 4, 0, 1, 2, 3] (loop A.st.hs.length 0 I2 (by omega) (qP.of k1 (k2.up (Nat.le_succ c))))
set_option maxRecDepth 100000 in
theorem m_pass_x (hR : lkM R N) (hA : aOK A) (h : rM I A c) (hp : ¬ (1 ≤ A.st.ps ∧ 0 < (mvs A.cf A.st.pos).length)) : g_Ct E l mX7_pass 6 138 0 0 [.ref 79] (I, J, R, D, N, ex) (g_ri (fun y I' => qP I A c 1 I') J R D N ex) := by
  refine g_Ct.of (by decide +kernel) (lb rfl) ?_
  have hN := hR.1
  have h9 := h.thr 0
  have z9 : up2 I 79 17 0 79 17 = 0 := up2_s ..
  have hs := hA.2.2.1
  have l4 := hs.1
  have l40 := hs.2.2.2.1
  have hlen : (mvs A.cf A.st.pos).length ≤ 81 := mvs_81 (cf_ok hA.2.1 (hA.2.2.1.rs hA.1)) _
  have p3 := hs.2.2.1
  have hfin : ∀ I2, frZ (up2 I 79 17 0) I2 → qP I A c 1 (up2 I2 79 17 1) := fun I2 k2 => ⟨fun o ho => by rw [← show I2 o = I o from by rw [k2.1 o (by omega)]; funext j; exact up2_n _ _ (by omega)]; funext j; exact up2_n _ _ (by omega), up2_s .., ((h9.z k2).thr 1).up (Nat.le_succ c)⟩
  by_cases hp1 : A.st.ps = 0
  · refine w_aload_n dX7_pass_0 rfl ?_
    refine w_iconst (v := 0) dX7_pass_1 (by decide) ?_
    refine x_puti (ci := 7) (k := 17) dX7_pass_2 rfl (by decide) (by decide) (by omega) fl_X7_73 rfl rfl ?_
    refine w_aload_n dX7_pass_5 rfl ?_
    refine v_callV dX7_pass_6 lk_X7_360 [] rfl (m_movesNow E l hR hA h9) (g_recv.obj (ci := 7) rfl (by decide) (show 79 < N by omega)) rfl ⟨⟨by decide, by decide⟩, by decide, by decide⟩ (lb rfl) (fun x_6 I2 h_6 => ?_)
    obtain ⟨k1, k2⟩ := h_6
    have r2 := h9.z k2
    have z2 : I2 79 17 = 0 := k2.o.2.trans z9
    rw [k1]
    refine w_istore_n dX7_pass_9 (by decide) rfl ?_
    refine w_aload_n dX7_pass_10 rfl ?_
    refine w_aload_n dX7_pass_11 rfl ?_
    refine x_getr (ci := 7) (k := 0) (a := 80) dX7_pass_12 rfl (by decide) (by decide) (by omega) fl_X7_7 (Or.inr ⟨_, rfl⟩) hR.2.1 ?_
    refine w_bipush (v := 9) dX7_pass_15 (by decide) ?_
    refine x_iald (j := 9) dX7_pass_17 rfl (by omega) rfl (show 9 < 172 by decide) ?_
    rw [show I2 80 9 = nI A.st.ps from r2.1.2.2.1]
    refine w_if_le (tgt := 29) dX7_pass_18 (by decide) (fun c_18 => ?_) (fun c_18 => absurd ((by rw [hp1]; decide)) c_18)
    refine w_iconst (v := 0) dX7_pass_29 (by decide) ?_
    refine w_iconst (v := 1) dX7_pass_30 (by decide) ?_
    refine y_callV dX7_pass_31 lk_X7_256 [.int 0, .int 1] rfl (m_may_f E l (by omega) z2 (by decide)) (g_recv.obj (ci := 7) rfl (by decide) (show 79 < N by omega)) rfl ⟨⟨by decide, by decide⟩, by decide, by decide⟩ (lb rfl) ?_
    refine w_if_ne (tgt := 39) dX7_pass_34 (by decide) (fun c_34 => absurd (rfl) c_34) (fun c_34 => ?_)
    refine w_iconst (v := 0) dX7_pass_37 (by decide) ?_
    refine w_iret dX7_pass_38 rfl rfl ⟨_, _, rfl, hfin _ k2, rfl⟩ (by decide) (by decide)
  · have h0 : (mvs A.cf A.st.pos).length = 0 := by omega
    refine w_aload_n dX7_pass_0 rfl ?_
    refine w_iconst (v := 0) dX7_pass_1 (by decide) ?_
    refine x_puti (ci := 7) (k := 17) dX7_pass_2 rfl (by decide) (by decide) (by omega) fl_X7_73 rfl rfl ?_
    refine w_aload_n dX7_pass_5 rfl ?_
    refine v_callV dX7_pass_6 lk_X7_360 [] rfl (m_movesNow E l hR hA h9) (g_recv.obj (ci := 7) rfl (by decide) (show 79 < N by omega)) rfl ⟨⟨by decide, by decide⟩, by decide, by decide⟩ (lb rfl) (fun x_6 I2 h_6 => ?_)
    obtain ⟨k1, k2⟩ := h_6
    have r2 := h9.z k2
    have z2 : I2 79 17 = 0 := k2.o.2.trans z9
    rw [k1]
    refine w_istore_n dX7_pass_9 (by decide) rfl ?_
    refine w_aload_n dX7_pass_10 rfl ?_
    refine w_aload_n dX7_pass_11 rfl ?_
    refine x_getr (ci := 7) (k := 0) (a := 80) dX7_pass_12 rfl (by decide) (by decide) (by omega) fl_X7_7 (Or.inr ⟨_, rfl⟩) hR.2.1 ?_
    refine w_bipush (v := 9) dX7_pass_15 (by decide) ?_
    refine x_iald (j := 9) dX7_pass_17 rfl (by omega) rfl (show 9 < 172 by decide) ?_
    rw [show I2 80 9 = nI A.st.ps from r2.1.2.2.1]
    refine w_if_le (tgt := 29) dX7_pass_18 (by decide) (fun c_18 => absurd c_18 ((fun q => absurd (n_le (b := 0) q) (by omega)))) (fun c_18 => ?_)
    refine w_iload_n dX7_pass_21 rfl ?_
    refine w_if_le (tgt := 29) dX7_pass_22 (by decide) (fun c_22 => ?_) (fun c_22 => absurd ((by rw [h0]; decide)) c_22)
    refine w_iconst (v := 0) dX7_pass_29 (by decide) ?_
    refine w_iconst (v := 1) dX7_pass_30 (by decide) ?_
    refine y_callV dX7_pass_31 lk_X7_256 [.int 0, .int 1] rfl (m_may_f E l (by omega) z2 (by decide)) (g_recv.obj (ci := 7) rfl (by decide) (show 79 < N by omega)) rfl ⟨⟨by decide, by decide⟩, by decide, by decide⟩ (lb rfl) ?_
    refine w_if_ne (tgt := 39) dX7_pass_34 (by decide) (fun c_34 => absurd (rfl) c_34) (fun c_34 => ?_)
    refine w_iconst (v := 0) dX7_pass_37 (by decide) ?_
    refine w_iret dX7_pass_38 rfl rfl ⟨_, _, rfl, hfin _ k2, rfl⟩ (by decide) (by decide)
set_option maxRecDepth 100000 in
theorem m_pass_full (hR : lkM R N) (hA : aOK A) (h : rM I A c) (hp : 1 ≤ A.st.ps) (hm : 0 < (mvs A.cf A.st.pos).length) (hf : A.st.pl.length = 40) : g_Ct E l mX7_pass 6 138 0 0 [.ref 79] (I, J, R, D, N, ex) (g_ri (fun y I' => y = -1 ∧ qP I A c 0 I') J R D N ex) := by
  refine g_Ct.of (by decide +kernel) (lb rfl) ?_
  have hN := hR.1
  have h9 := h.thr 0
  have z9 : up2 I 79 17 0 79 17 = 0 := up2_s ..
  have hs := hA.2.2.1
  have l4 := hs.1
  have l40 := hs.2.2.2.1
  have hlen : (mvs A.cf A.st.pos).length ≤ 81 := mvs_81 (cf_ok hA.2.1 (hA.2.2.1.rs hA.1)) _
  have p3 := hs.2.2.1
  refine w_aload_n dX7_pass_0 rfl ?_
  refine w_iconst (v := 0) dX7_pass_1 (by decide) ?_
  refine x_puti (ci := 7) (k := 17) dX7_pass_2 rfl (by decide) (by decide) (by omega) fl_X7_73 rfl rfl ?_
  refine w_aload_n dX7_pass_5 rfl ?_
  refine v_callV dX7_pass_6 lk_X7_360 [] rfl (m_movesNow E l hR hA h9) (g_recv.obj (ci := 7) rfl (by decide) (show 79 < N by omega)) rfl ⟨⟨by decide, by decide⟩, by decide, by decide⟩ (lb rfl) (fun x_6 I2 h_6 => ?_)
  obtain ⟨k1, k2⟩ := h_6
  have r2 := h9.z k2
  have z2 : I2 79 17 = 0 := k2.o.2.trans z9
  rw [k1]
  refine w_istore_n dX7_pass_9 (by decide) rfl ?_
  refine w_aload_n dX7_pass_10 rfl ?_
  refine w_aload_n dX7_pass_11 rfl ?_
  refine x_getr (ci := 7) (k := 0) (a := 80) dX7_pass_12 rfl (by decide) (by decide) (by omega) fl_X7_7 (Or.inr ⟨_, rfl⟩) hR.2.1 ?_
  refine w_bipush (v := 9) dX7_pass_15 (by decide) ?_
  refine x_iald (j := 9) dX7_pass_17 rfl (by omega) rfl (show 9 < 172 by decide) ?_
  rw [show I2 80 9 = nI A.st.ps from r2.1.2.2.1]
  refine w_if_le (tgt := 29) dX7_pass_18 (by decide) (fun c_18 => absurd c_18 ((fun q => absurd (n_le (b := 0) q) (by omega)))) (fun c_18 => ?_)
  refine w_iload_n dX7_pass_21 rfl ?_
  refine w_if_le (tgt := 29) dX7_pass_22 (by decide) (fun c_22 => absurd c_22 ((fun q => absurd (n_le (b := 0) q) (by omega)))) (fun c_22 => ?_)
  refine w_iconst (v := 1) dX7_pass_25 (by decide) ?_
  refine w_goto (tgt := 30) dX7_pass_26 (by decide) ?_
  refine w_iconst (v := 1) dX7_pass_30 (by decide) ?_
  refine y_callV dX7_pass_31 lk_X7_256 [.int 1, .int 1] rfl (m_may_t E l (by omega) z2 1) (g_recv.obj (ci := 7) rfl (by decide) (show 79 < N by omega)) rfl ⟨⟨by decide, by decide⟩, by decide, by decide⟩ (lb rfl) ?_
  refine w_if_ne (tgt := 39) dX7_pass_34 (by decide) (fun c_34 => ?_) (fun c_34 => absurd c_34 ((by decide)))
  refine w_aload_n dX7_pass_39 rfl ?_
  refine y_callV dX7_pass_40 lk_X7_390 [] rfl (m_isFull E l hR r2.1.2.2.2.2.1 l40) (g_recv.obj (ci := 7) rfl (by decide) (show 79 < N by omega)) rfl ⟨⟨by decide, by decide⟩, by decide, by decide⟩ (lb rfl) ?_
  refine w_if_eq (tgt := 48) dX7_pass_43 (by decide) (fun c_43 => absurd c_43 ((by rw [decide_eq_true hf]; decide))) (fun c_43 => ?_)
  refine w_iconst (v := (-1)) dX7_pass_46 (by decide) ?_
  refine w_iret dX7_pass_47 rfl rfl ⟨_, _, rfl, ⟨rfl, qP.of k2.o (r2.up (Nat.le_succ c))⟩, rfl⟩ (by decide) (by decide)
set_option maxRecDepth 100000 in
theorem m_pass (hR : lkM R N) (hA : aOK A) (h : rM I A c) (hp : 1 ≤ A.st.ps) (hm : 0 < (mvs A.cf A.st.pos).length) (hf : A.st.pl.length < 40) : g_Ct E l mX7_pass 6 138 0 0 [.ref 79] (I, J, R, D, N, ex) (g_ri (fun y I' => y = nI (A.st.ps - 1) ∧ qP I (A.rec (A.st.play Mv.pass)) c 0 I') J R D N ex) := by
  refine g_Ct.of (by decide +kernel) (lb rfl) ?_
  have hN := hR.1
  have h9 := h.thr 0
  have z9 : up2 I 79 17 0 79 17 = 0 := up2_s ..
  have hs := hA.2.2.1
  have l4 := hs.1
  have l40 := hs.2.2.2.1
  have hlen : (mvs A.cf A.st.pos).length ≤ 81 := mvs_81 (cf_ok hA.2.1 (hA.2.2.1.rs hA.1)) _
  have p3 := hs.2.2.1
  refine w_aload_n dX7_pass_0 rfl ?_
  refine w_iconst (v := 0) dX7_pass_1 (by decide) ?_
  refine x_puti (ci := 7) (k := 17) dX7_pass_2 rfl (by decide) (by decide) (by omega) fl_X7_73 rfl rfl ?_
  refine w_aload_n dX7_pass_5 rfl ?_
  refine v_callV dX7_pass_6 lk_X7_360 [] rfl (m_movesNow E l hR hA h9) (g_recv.obj (ci := 7) rfl (by decide) (show 79 < N by omega)) rfl ⟨⟨by decide, by decide⟩, by decide, by decide⟩ (lb rfl) (fun x_6 I2 h_6 => ?_)
  obtain ⟨k1, k2⟩ := h_6
  have r2 := h9.z k2
  have z2 : I2 79 17 = 0 := k2.o.2.trans z9
  rw [k1]
  refine w_istore_n dX7_pass_9 (by decide) rfl ?_
  refine w_aload_n dX7_pass_10 rfl ?_
  refine w_aload_n dX7_pass_11 rfl ?_
  refine x_getr (ci := 7) (k := 0) (a := 80) dX7_pass_12 rfl (by decide) (by decide) (by omega) fl_X7_7 (Or.inr ⟨_, rfl⟩) hR.2.1 ?_
  refine w_bipush (v := 9) dX7_pass_15 (by decide) ?_
  refine x_iald (j := 9) dX7_pass_17 rfl (by omega) rfl (show 9 < 172 by decide) ?_
  rw [show I2 80 9 = nI A.st.ps from r2.1.2.2.1]
  refine w_if_le (tgt := 29) dX7_pass_18 (by decide) (fun c_18 => absurd c_18 ((fun q => absurd (n_le (b := 0) q) (by omega)))) (fun c_18 => ?_)
  refine w_iload_n dX7_pass_21 rfl ?_
  refine w_if_le (tgt := 29) dX7_pass_22 (by decide) (fun c_22 => absurd c_22 ((fun q => absurd (n_le (b := 0) q) (by omega)))) (fun c_22 => ?_)
  refine w_iconst (v := 1) dX7_pass_25 (by decide) ?_
  refine w_goto (tgt := 30) dX7_pass_26 (by decide) ?_
  refine w_iconst (v := 1) dX7_pass_30 (by decide) ?_
  refine y_callV dX7_pass_31 lk_X7_256 [.int 1, .int 1] rfl (m_may_t E l (by omega) z2 1) (g_recv.obj (ci := 7) rfl (by decide) (show 79 < N by omega)) rfl ⟨⟨by decide, by decide⟩, by decide, by decide⟩ (lb rfl) ?_
  refine w_if_ne (tgt := 39) dX7_pass_34 (by decide) (fun c_34 => ?_) (fun c_34 => absurd c_34 ((by decide)))
  refine w_aload_n dX7_pass_39 rfl ?_
  refine y_callV dX7_pass_40 lk_X7_390 [] rfl (m_isFull E l hR r2.1.2.2.2.2.1 l40) (g_recv.obj (ci := 7) rfl (by decide) (show 79 < N by omega)) rfl ⟨⟨by decide, by decide⟩, by decide, by decide⟩ (lb rfl) ?_
  refine w_if_eq (tgt := 48) dX7_pass_43 (by decide) (fun c_43 => ?_) (fun c_43 => absurd ((by rw [decide_eq_false (by omega)]; rfl)) c_43)
  refine w_aload_n dX7_pass_48 rfl ?_
  refine w_iconst (v := 2) dX7_pass_49 (by decide) ?_
  refine w_iconst (v := (-1)) dX7_pass_50 (by decide) ?_
  refine w_iconst (v := (-1)) dX7_pass_51 (by decide) ?_
  refine w_iconst (v := 0) dX7_pass_52 (by decide) ?_
  refine u_callV dX7_pass_53 lk_X7_393 [.int (deS Mv.pass 0), .int (deS Mv.pass 1), .int (deS Mv.pass 2), .int (deS Mv.pass 3)] rfl (m_plays E l hR hA r2 (m := Mv.pass) trivial hp hf) (g_recv.obj (ci := 7) rfl (by decide) (show 79 < N by omega)) rfl ⟨⟨by decide, by decide⟩, by decide, by decide⟩ (lb rfl) (fun I3 h_53 => ?_)
  obtain ⟨g1, g2⟩ := h_53
  refine w_aload_n dX7_pass_56 rfl ?_
  refine x_getr (ci := 7) (k := 0) (a := 80) dX7_pass_57 rfl (by decide) (by decide) (by omega) fl_X7_7 (Or.inr ⟨_, rfl⟩) hR.2.1 ?_
  refine w_bipush (v := 9) dX7_pass_60 (by decide) ?_
  refine x_iald (j := 9) dX7_pass_62 rfl (by omega) rfl (show 9 < 172 by decide) ?_
  rw [show I3 80 9 = nI (A.st.ps - 1) from g2.1.2.2.1]
  refine w_iret dX7_pass_63 rfl rfl ⟨_, _, rfl, ⟨rfl, qP.of (k2.o.trans g1) (g2.up (Nat.le_succ c))⟩, rfl⟩ (by decide) (by decide)
set_option maxRecDepth 100000 in
theorem m_play_x (hR : lkM R N) (hA : aOK A) (h : rM I A c) (h0 : (mvs A.cf A.st.pos).length = 0) : g_Ct E l mX7_play 6 142 0 0 [.ref 79] (I, J, R, D, N, ex) (g_ri (fun y I' => qP I A c 1 I') J R D N ex) := by
  refine g_Ct.of (by decide +kernel) (lb rfl) ?_
  have hN := hR.1
  have h9 := h.thr 0
  have z9 : up2 I 79 17 0 79 17 = 0 := up2_s ..
  have hs := hA.2.2.1
  have l4 := hs.1
  have l40 := hs.2.2.2.1
  have hlen : (mvs A.cf A.st.pos).length ≤ 81 := mvs_81 (cf_ok hA.2.1 (hA.2.2.1.rs hA.1)) _
  have p3 := hs.2.2.1
  refine w_aload_n dX7_play_0 rfl ?_
  refine w_iconst (v := 0) dX7_play_1 (by decide) ?_
  refine x_puti (ci := 7) (k := 17) dX7_play_2 rfl (by decide) (by decide) (by omega) fl_X7_73 rfl rfl ?_
  refine w_aload_n dX7_play_5 rfl ?_
  refine w_aload_n dX7_play_6 rfl ?_
  refine v_callV dX7_play_7 lk_X7_360 [] rfl (m_movesNow E l hR hA h9) (g_recv.obj (ci := 7) rfl (by decide) (show 79 < N by omega)) rfl ⟨⟨by decide, by decide⟩, by decide, by decide⟩ (lb rfl) (fun x_7 I2 h_7 => ?_)
  obtain ⟨k1, k2⟩ := h_7
  have r2 := h9.z k2
  have z2 : I2 79 17 = 0 := k2.o.2.trans z9
  rw [k1]
  refine w_if_le (tgt := 17) dX7_play_10 (by decide) (fun c_10 => ?_) (fun c_10 => absurd ((by rw [h0]; decide)) c_10)
  refine w_iconst (v := 0) dX7_play_17 (by decide) ?_
  refine w_iconst (v := 1) dX7_play_18 (by decide) ?_
  refine y_callV dX7_play_19 lk_X7_256 [.int 0, .int 1] rfl (m_may_f E l (by omega) z2 (by decide)) (g_recv.obj (ci := 7) rfl (by decide) (show 79 < N by omega)) rfl ⟨⟨by decide, by decide⟩, by decide, by decide⟩ (lb rfl) ?_
  refine w_if_ne (tgt := 27) dX7_play_22 (by decide) (fun c_22 => absurd (rfl) c_22) (fun c_22 => ?_)
  refine w_iconst (v := 0) dX7_play_25 (by decide) ?_
  refine w_iret dX7_play_26 rfl rfl ⟨_, _, rfl, ⟨fun o ho => by rw [← show I2 o = I o from by rw [k2.1 o (by omega)]; funext j; exact up2_n _ _ (by omega)]; funext j; exact up2_n _ _ (by omega), up2_s .., ((h9.z k2).thr 1).up (Nat.le_succ c)⟩, rfl⟩ (by decide) (by decide)
set_option maxRecDepth 100000 in
theorem m_play_full (hR : lkM R N) (hA : aOK A) (h : rM I A c) (h0 : 0 < (mvs A.cf A.st.pos).length) (hf : A.st.pl.length = 40) : g_Ct E l mX7_play 6 142 0 0 [.ref 79] (I, J, R, D, N, ex) (g_ri (fun y I' => y = -1 ∧ qP I A c 0 I') J R D N ex) := by
  refine g_Ct.of (by decide +kernel) (lb rfl) ?_
  have hN := hR.1
  have h9 := h.thr 0
  have z9 : up2 I 79 17 0 79 17 = 0 := up2_s ..
  have hs := hA.2.2.1
  have l4 := hs.1
  have l40 := hs.2.2.2.1
  have hlen : (mvs A.cf A.st.pos).length ≤ 81 := mvs_81 (cf_ok hA.2.1 (hA.2.2.1.rs hA.1)) _
  have p3 := hs.2.2.1
  refine w_aload_n dX7_play_0 rfl ?_
  refine w_iconst (v := 0) dX7_play_1 (by decide) ?_
  refine x_puti (ci := 7) (k := 17) dX7_play_2 rfl (by decide) (by decide) (by omega) fl_X7_73 rfl rfl ?_
  refine w_aload_n dX7_play_5 rfl ?_
  refine w_aload_n dX7_play_6 rfl ?_
  refine v_callV dX7_play_7 lk_X7_360 [] rfl (m_movesNow E l hR hA h9) (g_recv.obj (ci := 7) rfl (by decide) (show 79 < N by omega)) rfl ⟨⟨by decide, by decide⟩, by decide, by decide⟩ (lb rfl) (fun x_7 I2 h_7 => ?_)
  obtain ⟨k1, k2⟩ := h_7
  have r2 := h9.z k2
  have z2 : I2 79 17 = 0 := k2.o.2.trans z9
  rw [k1]
  refine w_if_le (tgt := 17) dX7_play_10 (by decide) (fun c_10 => absurd c_10 ((fun q => absurd (n_le (b := 0) q) (by omega)))) (fun c_10 => ?_)
  refine w_iconst (v := 1) dX7_play_13 (by decide) ?_
  refine w_goto (tgt := 18) dX7_play_14 (by decide) ?_
  refine w_iconst (v := 1) dX7_play_18 (by decide) ?_
  refine y_callV dX7_play_19 lk_X7_256 [.int 1, .int 1] rfl (m_may_t E l (by omega) z2 1) (g_recv.obj (ci := 7) rfl (by decide) (show 79 < N by omega)) rfl ⟨⟨by decide, by decide⟩, by decide, by decide⟩ (lb rfl) ?_
  refine w_if_ne (tgt := 27) dX7_play_22 (by decide) (fun c_22 => ?_) (fun c_22 => absurd c_22 ((by decide)))
  refine w_aload_n dX7_play_27 rfl ?_
  refine y_callV dX7_play_28 lk_X7_390 [] rfl (m_isFull E l hR r2.1.2.2.2.2.1 l40) (g_recv.obj (ci := 7) rfl (by decide) (show 79 < N by omega)) rfl ⟨⟨by decide, by decide⟩, by decide, by decide⟩ (lb rfl) ?_
  refine w_if_eq (tgt := 36) dX7_play_31 (by decide) (fun c_31 => absurd c_31 ((by rw [decide_eq_true hf]; decide))) (fun c_31 => ?_)
  refine w_iconst (v := (-1)) dX7_play_34 (by decide) ?_
  refine w_iret dX7_play_35 rfl rfl ⟨_, _, rfl, ⟨rfl, qP.of k2.o (r2.up (Nat.le_succ c))⟩, rfl⟩ (by decide) (by decide)
set_option maxRecDepth 100000 in
theorem m_play (hR : lkM R N) (hA : aOK A) (h : rM I A c) (hc : c ≤ 1000) {b : Nat} (hb : bsF (opv A.cf A.st.pos) (mvs A.cf A.st.pos).length = some b) (hbl : b < (mvs A.cf A.st.pos).length) (hf : A.st.pl.length < 40) : g_Ct E l mX7_play 6 142 0 0 [.ref 79] (I, J, R, D, N, ex) (g_ri (fun y I' => y = nI b ∧ qP I (A.rec (A.st.play (mvs A.cf A.st.pos)[b])) c 0 I') J R D N ex) := by
  refine g_Ct.of (by decide +kernel) (lb rfl) ?_
  have hN := hR.1
  have h9 := h.thr 0
  have z9 : up2 I 79 17 0 79 17 = 0 := up2_s ..
  have hs := hA.2.2.1
  have l4 := hs.1
  have l40 := hs.2.2.2.1
  have hlen : (mvs A.cf A.st.pos).length ≤ 81 := mvs_81 (cf_ok hA.2.1 (hA.2.2.1.rs hA.1)) _
  have p3 := hs.2.2.1
  have hmv := getElem_in hbl
  have hW : mvW (mvs A.cf A.st.pos)[b] := mvs_W (by rw [cf_m A]; exact l4) hmv
  have hP : playOK A.st (mvs A.cf A.st.pos)[b] := by
    have hk := mem_mvs hmv
    have cm := cf_m A
    generalize (mvs A.cf A.st.pos)[b] = m at hk
    rcases m with y | y | y
    · obtain ⟨q1, q2, q3, _⟩ := hk
      exact ⟨by omega, q2, by rw [← hs.dig (show y.1 < 4 by omega)]; exact q3⟩
    · obtain ⟨q1, q2, q3, q4, q5, _⟩ := hk
      exact ⟨q1, by omega, q3, by rw [← hs.dig (show y.1 < 4 by omega)]; exact q4, by rw [← hs.dig (show y.2.1 < 4 by omega)]; exact q5⟩
    · have hk' : 65536 ≤ A.st.pos := hk
      have := hs.ps
      show 1 ≤ A.st.ps
      omega
  refine w_aload_n dX7_play_0 rfl ?_
  refine w_iconst (v := 0) dX7_play_1 (by decide) ?_
  refine x_puti (ci := 7) (k := 17) dX7_play_2 rfl (by decide) (by decide) (by omega) fl_X7_73 rfl rfl ?_
  refine w_aload_n dX7_play_5 rfl ?_
  refine w_aload_n dX7_play_6 rfl ?_
  refine v_callV dX7_play_7 lk_X7_360 [] rfl (m_movesNow E l hR hA h9) (g_recv.obj (ci := 7) rfl (by decide) (show 79 < N by omega)) rfl ⟨⟨by decide, by decide⟩, by decide, by decide⟩ (lb rfl) (fun x_7 I2 h_7 => ?_)
  obtain ⟨k1, k2⟩ := h_7
  have r2 := h9.z k2
  have z2 : I2 79 17 = 0 := k2.o.2.trans z9
  rw [k1]
  refine w_if_le (tgt := 17) dX7_play_10 (by decide) (fun c_10 => absurd c_10 ((fun q => absurd (n_le (b := 0) q) (by omega)))) (fun c_10 => ?_)
  refine w_iconst (v := 1) dX7_play_13 (by decide) ?_
  refine w_goto (tgt := 18) dX7_play_14 (by decide) ?_
  refine w_iconst (v := 1) dX7_play_18 (by decide) ?_
  refine y_callV dX7_play_19 lk_X7_256 [.int 1, .int 1] rfl (m_may_t E l (by omega) z2 1) (g_recv.obj (ci := 7) rfl (by decide) (show 79 < N by omega)) rfl ⟨⟨by decide, by decide⟩, by decide, by decide⟩ (lb rfl) ?_
  refine w_if_ne (tgt := 27) dX7_play_22 (by decide) (fun c_22 => ?_) (fun c_22 => absurd c_22 ((by decide)))
  refine w_aload_n dX7_play_27 rfl ?_
  refine y_callV dX7_play_28 lk_X7_390 [] rfl (m_isFull E l hR r2.1.2.2.2.2.1 l40) (g_recv.obj (ci := 7) rfl (by decide) (show 79 < N by omega)) rfl ⟨⟨by decide, by decide⟩, by decide, by decide⟩ (lb rfl) ?_
  refine w_if_eq (tgt := 36) dX7_play_31 (by decide) (fun c_31 => ?_) (fun c_31 => absurd ((by rw [decide_eq_false (by omega)]; rfl)) c_31)
  refine w_aload_n dX7_play_36 rfl ?_
  refine v_callV dX7_play_37 lk_X7_381 [] rfl (m_bestMove E l hR hA r2 hc) (g_recv.obj (ci := 7) rfl (by decide) (show 79 < N by omega)) rfl ⟨⟨by decide, by decide⟩, by decide, by decide⟩ (lb rfl) (fun x_37 I3 h_37 => ?_)
  obtain ⟨g1, g2, g3⟩ := h_37
  have ge : x_37 = nI b := (by rw [g1, hb]; rfl)
  rw [ge]
  refine w_istore_n dX7_play_40 (by decide) rfl ?_
  refine w_aload_n dX7_play_41 rfl ?_
  refine w_iload_n dX7_play_42 rfl ?_
  refine v_callV dX7_play_43 lk_X7_354 [.int (nI b)] rfl (m_finds E l hR hA g3 (nI b)) (g_recv.obj (ci := 7) rfl (by decide) (show 79 < N by omega)) rfl ⟨⟨by decide, by decide⟩, by decide, by decide⟩ (lb rfl) (fun x_43 I4 h_43 => ?_)
  obtain ⟨f1, f2⟩ := h_43
  obtain ⟨f3, v1, v2, v3, v4, v5⟩ := fd_at hlen hbl f2
  refine w_istore_n dX7_play_46 (by decide) rfl ?_
  refine w_aload_n dX7_play_47 rfl ?_
  refine w_aload_n dX7_play_48 rfl ?_
  refine x_geti (ci := 7) (k := 44) dX7_play_49 rfl (by decide) (by decide) (by omega) fl_X7_329 rfl ?_
  rw [v1]
  refine w_aload_n dX7_play_52 rfl ?_
  refine x_geti (ci := 7) (k := 45) dX7_play_53 rfl (by decide) (by decide) (by omega) fl_X7_332 rfl ?_
  rw [v2]
  refine w_aload_n dX7_play_56 rfl ?_
  refine x_geti (ci := 7) (k := 46) dX7_play_57 rfl (by decide) (by decide) (by omega) fl_X7_335 rfl ?_
  rw [v3]
  refine w_aload_n dX7_play_60 rfl ?_
  refine x_geti (ci := 7) (k := 47) dX7_play_61 rfl (by decide) (by decide) (by omega) fl_X7_338 rfl ?_
  rw [v4]
  refine u_callV dX7_play_64 lk_X7_393 [.int (deS (mvs A.cf A.st.pos)[b] 0), .int (deS (mvs A.cf A.st.pos)[b] 1), .int (deS (mvs A.cf A.st.pos)[b] 2), .int (deS (mvs A.cf A.st.pos)[b] 3)] rfl (m_plays E l hR hA (g3.z f1) hW hP hf) (g_recv.obj (ci := 7) rfl (by decide) (show 79 < N by omega)) rfl ⟨⟨by decide, by decide⟩, by decide, by decide⟩ (lb rfl) (fun I5 h_64 => ?_)
  obtain ⟨p1, p2⟩ := h_64
  refine w_iload_n dX7_play_67 rfl ?_
  refine w_iret dX7_play_68 rfl rfl ⟨_, _, rfl, ⟨rfl, qP.of (((k2.o.trans g2).trans f1.o).trans p1) p2⟩, rfl⟩ (by decide) (by decide)
end MV2
