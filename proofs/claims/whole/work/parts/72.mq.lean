/-! HeapGamesModel: asking rules -/
section ME
variable (E : GE) (l : Launch)
variable {I : Nat → Nat → Int32} {J : Nat → Nat → Int64} {R : Nat → Nat → Option Nat} {D : Nat → Nat → UInt64} {N : Nat} {ex : Bool} {A : AS} {c : Nat}

set_option maxRecDepth 100000 in
theorem m_kind_x (hR : lkM R N) (hA : aOK A) (h : rM I A c) {x : Int32} (hx : x < 0 ∨ ¬ x < nI A.nr) : g_Ct E l mX7_kind 2 43 0 0 [.ref 79, .int x] (I, J, R, D, N, ex) (g_is (some (.int 0)) (up2 (up2 I 79 17 0) 79 17 1, J, R, D, N, ex)) := by
  refine g_Ct.of (by decide +kernel) (lb rfl) ?_
  have hN := hR.1
  have h9 := h.thr 0
  have z9 : up2 I 79 17 0 79 17 = 0 := up2_s ..
  have h6 := hA.1
  refine w_aload_n dX7_kind_0 rfl ?_
  refine w_iconst (v := 0) dX7_kind_1 (by decide) ?_
  refine x_puti (ci := 7) (k := 17) dX7_kind_2 rfl (by decide) (by decide) (by omega) fl_X7_73 rfl rfl ?_
  refine w_aload_n dX7_kind_5 rfl ?_
  refine w_iload_n dX7_kind_6 rfl ?_
  refine y_callV dX7_kind_7 lk_X7_366 [.int x] rfl (m_mayRule_f E l (by omega) z9 h9.2.2.2.1.1 h6 hx) (g_recv.obj (ci := 7) rfl (by decide) (show 79 < N by omega)) rfl ⟨⟨by decide, by decide⟩, by decide, by decide⟩ (lb rfl) ?_
  refine w_if_eq (tgt := 22) dX7_kind_10 (by decide) (fun c_10 => ?_) (fun c_10 => absurd (rfl) c_10)
  refine w_iconst (v := 0) dX7_kind_22 (by decide) ?_
  refine w_iret dX7_kind_23 rfl rfl ⟨rfl, rfl⟩ (by decide) (by decide)
set_option maxRecDepth 100000 in
theorem m_kind (hR : lkM R N) (hA : aOK A) (h : rM I A c) {k : Nat} (hk : k < A.nr) : g_Ct E l mX7_kind 2 43 0 0 [.ref 79, .int (nI k)] (I, J, R, D, N, ex) (g_is (some (.int (nI (A.ru.1 k)))) (up2 I 79 17 0, J, R, D, N, ex)) := by
  refine g_Ct.of (by decide +kernel) (lb rfl) ?_
  have hN := hR.1
  have h9 := h.thr 0
  have z9 : up2 I 79 17 0 79 17 = 0 := up2_s ..
  have h6 := hA.1
  obtain ⟨al, hm1, hm2⟩ := h9.2.2.2.1.2.1 k hk
  refine w_aload_n dX7_kind_0 rfl ?_
  refine w_iconst (v := 0) dX7_kind_1 (by decide) ?_
  refine x_puti (ci := 7) (k := 17) dX7_kind_2 rfl (by decide) (by decide) (by omega) fl_X7_73 rfl rfl ?_
  refine w_aload_n dX7_kind_5 rfl ?_
  refine w_iload_n dX7_kind_6 rfl ?_
  refine y_callV dX7_kind_7 lk_X7_366 [.int (nI k)] rfl (m_mayRule_t E l (by omega) z9 h9.2.2.2.1.1 h6 hk) (g_recv.obj (ci := 7) rfl (by decide) (show 79 < N by omega)) rfl ⟨⟨by decide, by decide⟩, by decide, by decide⟩ (lb rfl) ?_
  refine w_if_eq (tgt := 22) dX7_kind_10 (by decide) (fun c_10 => absurd c_10 ((by decide))) (fun c_10 => ?_)
  refine w_aload_n dX7_kind_13 rfl ?_
  refine x_getr (ci := 7) (k := 6) (a := 85) dX7_kind_14 rfl (by decide) (by decide) (by omega) fl_X7_26 (Or.inr ⟨_, rfl⟩) hR.2.2.2.2.2.2.1 ?_
  refine w_iload_n dX7_kind_17 rfl ?_
  refine x_iald (j := k) dX7_kind_18 rfl (by omega) rfl (show k < 6 by omega) ?_
  rw [hm1.1]
  refine w_goto (tgt := 23) dX7_kind_19 (by decide) ?_
  refine w_iret dX7_kind_23 rfl rfl ⟨rfl, rfl⟩ (by decide) (by decide)
set_option maxRecDepth 100000 in
theorem m_mayTake_x1 (hR : lkM R N) (hA : aOK A) (h : rM I A c) {x : Int32} (hx : x < 0 ∨ ¬ x < nI A.nr) (z : Int32) (y0 : Int32) : g_Ct E l mX7_mayTake 3 65 0 0 [.ref 79, .int x, .int z, .int y0] (I, J, R, D, N, ex) (g_is (some (.int 0)) (up2 (up2 I 79 17 0) 79 17 1, J, R, D, N, ex)) := by
  refine g_Ct.of (by decide +kernel) (lb rfl) ?_
  have hN := hR.1
  have h9 := h.thr 0
  have z9 : up2 I 79 17 0 79 17 = 0 := up2_s ..
  have h6 := hA.1
  refine w_aload_n dX7_mayTake_0 rfl ?_
  refine w_iconst (v := 0) dX7_mayTake_1 (by decide) ?_
  refine x_puti (ci := 7) (k := 17) dX7_mayTake_2 rfl (by decide) (by decide) (by omega) fl_X7_73 rfl rfl ?_
  refine w_aload_n dX7_mayTake_5 rfl ?_
  refine w_iload_n dX7_mayTake_6 rfl ?_
  refine w_iload_n dX7_mayTake_7 rfl ?_
  refine y_callV dX7_mayTake_8 lk_X7_369 [.int x, .int z] rfl (m_mayUpTo_f1 E l (by omega) z9 h9.2.2.2.1.1 h6 hx z) (g_recv.obj (ci := 7) rfl (by decide) (show 79 < N by omega)) rfl ⟨⟨by decide, by decide⟩, by decide, by decide⟩ (lb rfl) ?_
  refine w_if_eq (tgt := 28) dX7_mayTake_11 (by decide) (fun c_11 => ?_) (fun c_11 => absurd (rfl) c_11)
  refine w_iconst (v := 0) dX7_mayTake_28 (by decide) ?_
  refine w_iret dX7_mayTake_29 rfl rfl ⟨rfl, rfl⟩ (by decide) (by decide)
set_option maxRecDepth 100000 in
theorem m_mayTake_x2 (hR : lkM R N) (hA : aOK A) (h : rM I A c) {k : Nat} (hk : k < A.nr) {z : Int32} (hz : z < 0 ∨ ¬ z < nI 301) (y0 : Int32) : g_Ct E l mX7_mayTake 3 65 0 0 [.ref 79, .int (nI k), .int z, .int y0] (I, J, R, D, N, ex) (g_is (some (.int 0)) (up2 (up2 I 79 17 0) 79 17 2, J, R, D, N, ex)) := by
  refine g_Ct.of (by decide +kernel) (lb rfl) ?_
  have hN := hR.1
  have h9 := h.thr 0
  have z9 : up2 I 79 17 0 79 17 = 0 := up2_s ..
  have h6 := hA.1
  refine w_aload_n dX7_mayTake_0 rfl ?_
  refine w_iconst (v := 0) dX7_mayTake_1 (by decide) ?_
  refine x_puti (ci := 7) (k := 17) dX7_mayTake_2 rfl (by decide) (by decide) (by omega) fl_X7_73 rfl rfl ?_
  refine w_aload_n dX7_mayTake_5 rfl ?_
  refine w_iload_n dX7_mayTake_6 rfl ?_
  refine w_iload_n dX7_mayTake_7 rfl ?_
  refine y_callV dX7_mayTake_8 lk_X7_369 [.int (nI k), .int z] rfl (m_mayUpTo_f2 E l (by omega) z9 h9.2.2.2.1.1 h6 hk hz) (g_recv.obj (ci := 7) rfl (by decide) (show 79 < N by omega)) rfl ⟨⟨by decide, by decide⟩, by decide, by decide⟩ (lb rfl) ?_
  refine w_if_eq (tgt := 28) dX7_mayTake_11 (by decide) (fun c_11 => ?_) (fun c_11 => absurd (rfl) c_11)
  refine w_iconst (v := 0) dX7_mayTake_28 (by decide) ?_
  refine w_iret dX7_mayTake_29 rfl rfl ⟨rfl, rfl⟩ (by decide) (by decide)
set_option maxRecDepth 100000 in
theorem m_mayTake (hR : lkM R N) (hA : aOK A) (h : rM I A c) {k : Nat} (hk : k < A.nr) {m : Nat} (hm : m < 301) (y0 : Int32) : g_Ct E l mX7_mayTake 3 65 0 0 [.ref 79, .int (nI k), .int (nI m), .int y0] (I, J, R, D, N, ex) (g_is (some (.int (b2i (okI (A.ru.1 k) (A.ru.2.1 k) m y0)))) (up2 I 79 17 0, J, R, D, N, ex)) := by
  refine g_Ct.of (by decide +kernel) (lb rfl) ?_
  have hN := hR.1
  have h9 := h.thr 0
  have z9 : up2 I 79 17 0 79 17 = 0 := up2_s ..
  have h6 := hA.1
  obtain ⟨al, hm1, hm2⟩ := h9.2.2.2.1.2.1 k hk
  rw [hm2]
  refine w_aload_n dX7_mayTake_0 rfl ?_
  refine w_iconst (v := 0) dX7_mayTake_1 (by decide) ?_
  refine x_puti (ci := 7) (k := 17) dX7_mayTake_2 rfl (by decide) (by decide) (by omega) fl_X7_73 rfl rfl ?_
  refine w_aload_n dX7_mayTake_5 rfl ?_
  refine w_iload_n dX7_mayTake_6 rfl ?_
  refine w_iload_n dX7_mayTake_7 rfl ?_
  refine y_callV dX7_mayTake_8 lk_X7_369 [.int (nI k), .int (nI m)] rfl (m_mayUpTo_t E l (by omega) z9 h9.2.2.2.1.1 h6 hk hm) (g_recv.obj (ci := 7) rfl (by decide) (show 79 < N by omega)) rfl ⟨⟨by decide, by decide⟩, by decide, by decide⟩ (lb rfl) ?_
  refine w_if_eq (tgt := 28) dX7_mayTake_11 (by decide) (fun c_11 => absurd c_11 ((by decide))) (fun c_11 => ?_)
  refine w_aload_n dX7_mayTake_14 rfl ?_
  refine w_iload_n dX7_mayTake_15 rfl ?_
  refine w_iload_n dX7_mayTake_16 rfl ?_
  refine w_iload_n dX7_mayTake_17 rfl ?_
  refine y_callV dX7_mayTake_18 lk_X7_92 [.int (nI k), .int (nI m), .int y0] rfl (m_allows E l hR (by omega) hm1 (by omega) y0) (g_recv.obj (ci := 7) rfl (by decide) (show 79 < N by omega)) rfl ⟨⟨by decide, by decide⟩, by decide, by decide⟩ (lb rfl) ?_
  refine w_if_eq (tgt := 28) dX7_mayTake_21 (by decide) (fun c_21 => ?_) (fun c_21 => ?_)
  · refine w_iconst (v := 0) dX7_mayTake_28 (by decide) ?_
    refine w_iret dX7_mayTake_29 rfl rfl (by first | exact ⟨rt_t (b2i_ne.mp c_21), rfl⟩ | exact ⟨rt_f (b2i_0.mp c_21), rfl⟩) (by decide) (by decide)
  · refine w_iconst (v := 1) dX7_mayTake_24 (by decide) ?_
    refine w_goto (tgt := 29) dX7_mayTake_25 (by decide) ?_
    refine w_iret dX7_mayTake_29 rfl rfl (by first | exact ⟨rt_t (b2i_ne.mp c_21), rfl⟩ | exact ⟨rt_f (b2i_0.mp c_21), rfl⟩) (by decide) (by decide)
set_option maxRecDepth 100000 in
theorem m_amounts_x1 (hR : lkM R N) (hA : aOK A) (h : rM I A c) {x : Int32} (hx : x < 0 ∨ ¬ x < nI A.nr) (z : Int32) : g_Ct E l mX7_amounts 3 70 0 0 [.ref 79, .int x, .int z] (I, J, R, D, N, ex) (g_is (some (.int 0)) (up2 (up2 I 79 17 0) 79 17 1, J, R, D, N, ex)) := by
  refine g_Ct.of (by decide +kernel) (lb rfl) ?_
  have hN := hR.1
  have h9 := h.thr 0
  have z9 : up2 I 79 17 0 79 17 = 0 := up2_s ..
  have h6 := hA.1
  refine w_aload_n dX7_amounts_0 rfl ?_
  refine w_iconst (v := 0) dX7_amounts_1 (by decide) ?_
  refine x_puti (ci := 7) (k := 17) dX7_amounts_2 rfl (by decide) (by decide) (by omega) fl_X7_73 rfl rfl ?_
  refine w_aload_n dX7_amounts_5 rfl ?_
  refine w_iload_n dX7_amounts_6 rfl ?_
  refine w_iload_n dX7_amounts_7 rfl ?_
  refine y_callV dX7_amounts_8 lk_X7_369 [.int x, .int z] rfl (m_mayUpTo_f1 E l (by omega) z9 h9.2.2.2.1.1 h6 hx z) (g_recv.obj (ci := 7) rfl (by decide) (show 79 < N by omega)) rfl ⟨⟨by decide, by decide⟩, by decide, by decide⟩ (lb rfl) ?_
  refine w_if_eq (tgt := 23) dX7_amounts_11 (by decide) (fun c_11 => ?_) (fun c_11 => absurd (rfl) c_11)
  refine w_iconst (v := 0) dX7_amounts_23 (by decide) ?_
  refine w_iret dX7_amounts_24 rfl rfl ⟨rfl, rfl⟩ (by decide) (by decide)
set_option maxRecDepth 100000 in
theorem m_amounts_x2 (hR : lkM R N) (hA : aOK A) (h : rM I A c) {k : Nat} (hk : k < A.nr) {z : Int32} (hz : z < 0 ∨ ¬ z < nI 301) : g_Ct E l mX7_amounts 3 70 0 0 [.ref 79, .int (nI k), .int z] (I, J, R, D, N, ex) (g_is (some (.int 0)) (up2 (up2 I 79 17 0) 79 17 2, J, R, D, N, ex)) := by
  refine g_Ct.of (by decide +kernel) (lb rfl) ?_
  have hN := hR.1
  have h9 := h.thr 0
  have z9 : up2 I 79 17 0 79 17 = 0 := up2_s ..
  have h6 := hA.1
  refine w_aload_n dX7_amounts_0 rfl ?_
  refine w_iconst (v := 0) dX7_amounts_1 (by decide) ?_
  refine x_puti (ci := 7) (k := 17) dX7_amounts_2 rfl (by decide) (by decide) (by omega) fl_X7_73 rfl rfl ?_
  refine w_aload_n dX7_amounts_5 rfl ?_
  refine w_iload_n dX7_amounts_6 rfl ?_
  refine w_iload_n dX7_amounts_7 rfl ?_
  refine y_callV dX7_amounts_8 lk_X7_369 [.int (nI k), .int z] rfl (m_mayUpTo_f2 E l (by omega) z9 h9.2.2.2.1.1 h6 hk hz) (g_recv.obj (ci := 7) rfl (by decide) (show 79 < N by omega)) rfl ⟨⟨by decide, by decide⟩, by decide, by decide⟩ (lb rfl) ?_
  refine w_if_eq (tgt := 23) dX7_amounts_11 (by decide) (fun c_11 => ?_) (fun c_11 => absurd (rfl) c_11)
  refine w_iconst (v := 0) dX7_amounts_23 (by decide) ?_
  refine w_iret dX7_amounts_24 rfl rfl ⟨rfl, rfl⟩ (by decide) (by decide)
set_option maxRecDepth 100000 in
theorem m_amounts (hR : lkM R N) (hA : aOK A) (h : rM I A c) {k : Nat} (hk : k < A.nr) {m : Nat} (hm : m < 301) : g_Ct E l mX7_amounts 3 70 0 0 [.ref 79, .int (nI k), .int (nI m)] (I, J, R, D, N, ex) (g_is (some (.int (nI (cntA (okA (A.ru.1 k) (A.ru.2.1 k) m) m)))) (up2 I 79 17 0, J, R, D, N, ex)) := by
  refine g_Ct.of (by decide +kernel) (lb rfl) ?_
  have hN := hR.1
  have h9 := h.thr 0
  have z9 : up2 I 79 17 0 79 17 = 0 := up2_s ..
  have h6 := hA.1
  obtain ⟨al, hm1, hm2⟩ := h9.2.2.2.1.2.1 k hk
  rw [hm2]
  refine w_aload_n dX7_amounts_0 rfl ?_
  refine w_iconst (v := 0) dX7_amounts_1 (by decide) ?_
  refine x_puti (ci := 7) (k := 17) dX7_amounts_2 rfl (by decide) (by decide) (by omega) fl_X7_73 rfl rfl ?_
  refine w_aload_n dX7_amounts_5 rfl ?_
  refine w_iload_n dX7_amounts_6 rfl ?_
  refine w_iload_n dX7_amounts_7 rfl ?_
  refine y_callV dX7_amounts_8 lk_X7_369 [.int (nI k), .int (nI m)] rfl (m_mayUpTo_t E l (by omega) z9 h9.2.2.2.1.1 h6 hk hm) (g_recv.obj (ci := 7) rfl (by decide) (show 79 < N by omega)) rfl ⟨⟨by decide, by decide⟩, by decide, by decide⟩ (lb rfl) ?_
  refine w_if_eq (tgt := 23) dX7_amounts_11 (by decide) (fun c_11 => absurd c_11 ((by decide))) (fun c_11 => ?_)
  refine w_aload_n dX7_amounts_14 rfl ?_
  refine w_iload_n dX7_amounts_15 rfl ?_
  refine w_iload_n dX7_amounts_16 rfl ?_
  refine y_callV dX7_amounts_17 lk_X7_372 [.int (nI k), .int (nI m)] rfl (m_amountsAt E l hR (by omega) hm1 (by omega)) (g_recv.obj (ci := 7) rfl (by decide) (show 79 < N by omega)) rfl ⟨⟨by decide, by decide⟩, by decide, by decide⟩ (lb rfl) ?_
  refine w_goto (tgt := 24) dX7_amounts_20 (by decide) ?_
  refine w_iret dX7_amounts_24 rfl rfl ⟨rfl, rfl⟩ (by decide) (by decide)
set_option maxRecDepth 100000 in
theorem m_value_x1 (hR : lkM R N) (hA : aOK A) (h : rM I A c) {x : Int32} (hx : x < 0 ∨ ¬ x < nI A.nr) (z : Int32) : g_Ct E l mX7_value 3 65 0 0 [.ref 79, .int x, .int z] (I, J, R, D, N, ex) (g_is (some (.int 0)) (up2 (up2 I 79 17 0) 79 17 1, J, R, D, N, ex)) := by
  refine g_Ct.of (by decide +kernel) (lb rfl) ?_
  have hN := hR.1
  have h9 := h.thr 0
  have z9 : up2 I 79 17 0 79 17 = 0 := up2_s ..
  have h6 := hA.1
  refine w_aload_n dX7_value_0 rfl ?_
  refine w_iconst (v := 0) dX7_value_1 (by decide) ?_
  refine x_puti (ci := 7) (k := 17) dX7_value_2 rfl (by decide) (by decide) (by omega) fl_X7_73 rfl rfl ?_
  refine w_aload_n dX7_value_5 rfl ?_
  refine w_iload_n dX7_value_6 rfl ?_
  refine w_iload_n dX7_value_7 rfl ?_
  refine y_callV dX7_value_8 lk_X7_369 [.int x, .int z] rfl (m_mayUpTo_f1 E l (by omega) z9 h9.2.2.2.1.1 h6 hx z) (g_recv.obj (ci := 7) rfl (by decide) (show 79 < N by omega)) rfl ⟨⟨by decide, by decide⟩, by decide, by decide⟩ (lb rfl) ?_
  refine w_if_eq (tgt := 23) dX7_value_11 (by decide) (fun c_11 => ?_) (fun c_11 => absurd (rfl) c_11)
  refine w_iconst (v := 0) dX7_value_23 (by decide) ?_
  refine w_iret dX7_value_24 rfl rfl ⟨rfl, rfl⟩ (by decide) (by decide)
set_option maxRecDepth 100000 in
theorem m_value_x2 (hR : lkM R N) (hA : aOK A) (h : rM I A c) {k : Nat} (hk : k < A.nr) {z : Int32} (hz : z < 0 ∨ ¬ z < nI 301) : g_Ct E l mX7_value 3 65 0 0 [.ref 79, .int (nI k), .int z] (I, J, R, D, N, ex) (g_is (some (.int 0)) (up2 (up2 I 79 17 0) 79 17 2, J, R, D, N, ex)) := by
  refine g_Ct.of (by decide +kernel) (lb rfl) ?_
  have hN := hR.1
  have h9 := h.thr 0
  have z9 : up2 I 79 17 0 79 17 = 0 := up2_s ..
  have h6 := hA.1
  refine w_aload_n dX7_value_0 rfl ?_
  refine w_iconst (v := 0) dX7_value_1 (by decide) ?_
  refine x_puti (ci := 7) (k := 17) dX7_value_2 rfl (by decide) (by decide) (by omega) fl_X7_73 rfl rfl ?_
  refine w_aload_n dX7_value_5 rfl ?_
  refine w_iload_n dX7_value_6 rfl ?_
  refine w_iload_n dX7_value_7 rfl ?_
  refine y_callV dX7_value_8 lk_X7_369 [.int (nI k), .int z] rfl (m_mayUpTo_f2 E l (by omega) z9 h9.2.2.2.1.1 h6 hk hz) (g_recv.obj (ci := 7) rfl (by decide) (show 79 < N by omega)) rfl ⟨⟨by decide, by decide⟩, by decide, by decide⟩ (lb rfl) ?_
  refine w_if_eq (tgt := 23) dX7_value_11 (by decide) (fun c_11 => ?_) (fun c_11 => absurd (rfl) c_11)
  refine w_iconst (v := 0) dX7_value_23 (by decide) ?_
  refine w_iret dX7_value_24 rfl rfl ⟨rfl, rfl⟩ (by decide) (by decide)
set_option maxRecDepth 100000 in
theorem m_value (hR : lkM R N) (hA : aOK A) (h : rM I A c) {k : Nat} (hk : k < A.nr) {m : Nat} (hm : m < 301) : g_Ct E l mX7_value 3 65 0 0 [.ref 79, .int (nI k), .int (nI m)] (I, J, R, D, N, ex) (g_is (some (.int (vS A.ru k m))) (up2 I 79 17 0, J, R, D, N, ex)) := by
  refine g_Ct.of (by decide +kernel) (lb rfl) ?_
  have hN := hR.1
  have h9 := h.thr 0
  have z9 : up2 I 79 17 0 79 17 = 0 := up2_s ..
  have h6 := hA.1
  refine w_aload_n dX7_value_0 rfl ?_
  refine w_iconst (v := 0) dX7_value_1 (by decide) ?_
  refine x_puti (ci := 7) (k := 17) dX7_value_2 rfl (by decide) (by decide) (by omega) fl_X7_73 rfl rfl ?_
  refine w_aload_n dX7_value_5 rfl ?_
  refine w_iload_n dX7_value_6 rfl ?_
  refine w_iload_n dX7_value_7 rfl ?_
  refine y_callV dX7_value_8 lk_X7_369 [.int (nI k), .int (nI m)] rfl (m_mayUpTo_t E l (by omega) z9 h9.2.2.2.1.1 h6 hk hm) (g_recv.obj (ci := 7) rfl (by decide) (show 79 < N by omega)) rfl ⟨⟨by decide, by decide⟩, by decide, by decide⟩ (lb rfl) ?_
  refine w_if_eq (tgt := 23) dX7_value_11 (by decide) (fun c_11 => absurd c_11 ((by decide))) (fun c_11 => ?_)
  refine w_aload_n dX7_value_14 rfl ?_
  refine w_iload_n dX7_value_15 rfl ?_
  refine w_iload_n dX7_value_16 rfl ?_
  refine y_callV dX7_value_17 lk_X7_101 [.int (nI k), .int (nI m)] rfl (m_valueOf E l hR.1 hR.2.2.2.2.2.2.2.2.2.2.2.2.1 (show k < 6 by omega) hm) (g_recv.obj (ci := 7) rfl (by decide) (show 79 < N by omega)) rfl ⟨⟨by decide, by decide⟩, by decide, by decide⟩ (lb rfl) ?_
  rw [h9.2.2.2.2.1.1 k hk m hm]
  refine w_goto (tgt := 24) dX7_value_20 (by decide) ?_
  refine w_iret dX7_value_24 rfl rfl ⟨rfl, rfl⟩ (by decide) (by decide)
set_option maxRecDepth 100000 in
theorem m_period_x1 (hR : lkM R N) (hA : aOK A) (h : rM I A c) {x : Int32} (hx : x < 0 ∨ ¬ x < nI A.nr) (z : Int32) : g_Ct E l mX7_period 3 70 0 0 [.ref 79, .int x, .int z] (I, J, R, D, N, ex) (g_is (some (.int 0)) (up2 (up2 I 79 17 0) 79 17 1, J, R, D, N, ex)) := by
  refine g_Ct.of (by decide +kernel) (lb rfl) ?_
  have hN := hR.1
  have h9 := h.thr 0
  have z9 : up2 I 79 17 0 79 17 = 0 := up2_s ..
  have h6 := hA.1
  refine w_aload_n dX7_period_0 rfl ?_
  refine w_iconst (v := 0) dX7_period_1 (by decide) ?_
  refine x_puti (ci := 7) (k := 17) dX7_period_2 rfl (by decide) (by decide) (by omega) fl_X7_73 rfl rfl ?_
  refine w_aload_n dX7_period_5 rfl ?_
  refine w_iload_n dX7_period_6 rfl ?_
  refine w_iload_n dX7_period_7 rfl ?_
  refine y_callV dX7_period_8 lk_X7_369 [.int x, .int z] rfl (m_mayUpTo_f1 E l (by omega) z9 h9.2.2.2.1.1 h6 hx z) (g_recv.obj (ci := 7) rfl (by decide) (show 79 < N by omega)) rfl ⟨⟨by decide, by decide⟩, by decide, by decide⟩ (lb rfl) ?_
  refine w_if_eq (tgt := 23) dX7_period_11 (by decide) (fun c_11 => ?_) (fun c_11 => absurd (rfl) c_11)
  refine w_iconst (v := 0) dX7_period_23 (by decide) ?_
  refine w_iret dX7_period_24 rfl rfl ⟨rfl, rfl⟩ (by decide) (by decide)
set_option maxRecDepth 100000 in
theorem m_period_x2 (hR : lkM R N) (hA : aOK A) (h : rM I A c) {k : Nat} (hk : k < A.nr) {z : Int32} (hz : z < 0 ∨ ¬ z < nI 301) : g_Ct E l mX7_period 3 70 0 0 [.ref 79, .int (nI k), .int z] (I, J, R, D, N, ex) (g_is (some (.int 0)) (up2 (up2 I 79 17 0) 79 17 2, J, R, D, N, ex)) := by
  refine g_Ct.of (by decide +kernel) (lb rfl) ?_
  have hN := hR.1
  have h9 := h.thr 0
  have z9 : up2 I 79 17 0 79 17 = 0 := up2_s ..
  have h6 := hA.1
  refine w_aload_n dX7_period_0 rfl ?_
  refine w_iconst (v := 0) dX7_period_1 (by decide) ?_
  refine x_puti (ci := 7) (k := 17) dX7_period_2 rfl (by decide) (by decide) (by omega) fl_X7_73 rfl rfl ?_
  refine w_aload_n dX7_period_5 rfl ?_
  refine w_iload_n dX7_period_6 rfl ?_
  refine w_iload_n dX7_period_7 rfl ?_
  refine y_callV dX7_period_8 lk_X7_369 [.int (nI k), .int z] rfl (m_mayUpTo_f2 E l (by omega) z9 h9.2.2.2.1.1 h6 hk hz) (g_recv.obj (ci := 7) rfl (by decide) (show 79 < N by omega)) rfl ⟨⟨by decide, by decide⟩, by decide, by decide⟩ (lb rfl) ?_
  refine w_if_eq (tgt := 23) dX7_period_11 (by decide) (fun c_11 => ?_) (fun c_11 => absurd (rfl) c_11)
  refine w_iconst (v := 0) dX7_period_23 (by decide) ?_
  refine w_iret dX7_period_24 rfl rfl ⟨rfl, rfl⟩ (by decide) (by decide)
set_option maxRecDepth 100000 in
theorem m_period (hR : lkM R N) (hA : aOK A) (h : rM I A c) {k : Nat} (hk : k < A.nr) {m : Nat} (hm : m < 301) : g_Ct E l mX7_period 3 70 0 0 [.ref 79, .int (nI k), .int (nI m)] (I, J, R, D, N, ex) (g_is (some (.int (o2i (perOf (vS A.ru k) m)))) (up2 I 79 17 0, J, R, D, N, ex)) := by
  refine g_Ct.of (by decide +kernel) (lb rfl) ?_
  have hN := hR.1
  have h9 := h.thr 0
  have z9 : up2 I 79 17 0 79 17 = 0 := up2_s ..
  have h6 := hA.1
  refine w_aload_n dX7_period_0 rfl ?_
  refine w_iconst (v := 0) dX7_period_1 (by decide) ?_
  refine x_puti (ci := 7) (k := 17) dX7_period_2 rfl (by decide) (by decide) (by omega) fl_X7_73 rfl rfl ?_
  refine w_aload_n dX7_period_5 rfl ?_
  refine w_iload_n dX7_period_6 rfl ?_
  refine w_iload_n dX7_period_7 rfl ?_
  refine y_callV dX7_period_8 lk_X7_369 [.int (nI k), .int (nI m)] rfl (m_mayUpTo_t E l (by omega) z9 h9.2.2.2.1.1 h6 hk hm) (g_recv.obj (ci := 7) rfl (by decide) (show 79 < N by omega)) rfl ⟨⟨by decide, by decide⟩, by decide, by decide⟩ (lb rfl) ?_
  refine w_if_eq (tgt := 23) dX7_period_11 (by decide) (fun c_11 => absurd c_11 ((by decide))) (fun c_11 => ?_)
  refine w_aload_n dX7_period_14 rfl ?_
  refine w_iload_n dX7_period_15 rfl ?_
  refine w_iload_n dX7_period_16 rfl ?_
  refine y_callV dX7_period_17 lk_X7_113 [.int (nI k), .int (nI m)] rfl (m_periodOf E l hR (show k < 6 by omega) (fun i hi => h9.2.2.2.2.1.1 k hk i hi) hm) (g_recv.obj (ci := 7) rfl (by decide) (show 79 < N by omega)) rfl ⟨⟨by decide, by decide⟩, by decide, by decide⟩ (lb rfl) ?_
  refine w_goto (tgt := 24) dX7_period_20 (by decide) ?_
  refine w_iret dX7_period_24 rfl rfl ⟨rfl, rfl⟩ (by decide) (by decide)
set_option maxRecDepth 100000 in
theorem m_start_x1 (hR : lkM R N) (hA : aOK A) (h : rM I A c) {x : Int32} (hx : x < 0 ∨ ¬ x < nI A.nr) (z : Int32) : g_Ct E l mX7_start 4 94 0 0 [.ref 79, .int x, .int z] (I, J, R, D, N, ex) (g_is (some (.int 0)) (up2 (up2 I 79 17 0) 79 17 1, J, R, D, N, ex)) := by
  refine g_Ct.of (by decide +kernel) (lb rfl) ?_
  have hN := hR.1
  have h9 := h.thr 0
  have z9 : up2 I 79 17 0 79 17 = 0 := up2_s ..
  have h6 := hA.1
  refine w_aload_n dX7_start_0 rfl ?_
  refine w_iconst (v := 0) dX7_start_1 (by decide) ?_
  refine x_puti (ci := 7) (k := 17) dX7_start_2 rfl (by decide) (by decide) (by omega) fl_X7_73 rfl rfl ?_
  refine w_aload_n dX7_start_5 rfl ?_
  refine w_iload_n dX7_start_6 rfl ?_
  refine w_iload_n dX7_start_7 rfl ?_
  refine y_callV dX7_start_8 lk_X7_369 [.int x, .int z] rfl (m_mayUpTo_f1 E l (by omega) z9 h9.2.2.2.1.1 h6 hx z) (g_recv.obj (ci := 7) rfl (by decide) (show 79 < N by omega)) rfl ⟨⟨by decide, by decide⟩, by decide, by decide⟩ (lb rfl) ?_
  refine w_if_eq (tgt := 23) dX7_start_11 (by decide) (fun c_11 => ?_) (fun c_11 => absurd (rfl) c_11)
  refine w_iconst (v := 0) dX7_start_23 (by decide) ?_
  refine w_iret dX7_start_24 rfl rfl ⟨rfl, rfl⟩ (by decide) (by decide)
set_option maxRecDepth 100000 in
theorem m_start_x2 (hR : lkM R N) (hA : aOK A) (h : rM I A c) {k : Nat} (hk : k < A.nr) {z : Int32} (hz : z < 0 ∨ ¬ z < nI 301) : g_Ct E l mX7_start 4 94 0 0 [.ref 79, .int (nI k), .int z] (I, J, R, D, N, ex) (g_is (some (.int 0)) (up2 (up2 I 79 17 0) 79 17 2, J, R, D, N, ex)) := by
  refine g_Ct.of (by decide +kernel) (lb rfl) ?_
  have hN := hR.1
  have h9 := h.thr 0
  have z9 : up2 I 79 17 0 79 17 = 0 := up2_s ..
  have h6 := hA.1
  refine w_aload_n dX7_start_0 rfl ?_
  refine w_iconst (v := 0) dX7_start_1 (by decide) ?_
  refine x_puti (ci := 7) (k := 17) dX7_start_2 rfl (by decide) (by decide) (by omega) fl_X7_73 rfl rfl ?_
  refine w_aload_n dX7_start_5 rfl ?_
  refine w_iload_n dX7_start_6 rfl ?_
  refine w_iload_n dX7_start_7 rfl ?_
  refine y_callV dX7_start_8 lk_X7_369 [.int (nI k), .int z] rfl (m_mayUpTo_f2 E l (by omega) z9 h9.2.2.2.1.1 h6 hk hz) (g_recv.obj (ci := 7) rfl (by decide) (show 79 < N by omega)) rfl ⟨⟨by decide, by decide⟩, by decide, by decide⟩ (lb rfl) ?_
  refine w_if_eq (tgt := 23) dX7_start_11 (by decide) (fun c_11 => ?_) (fun c_11 => absurd (rfl) c_11)
  refine w_iconst (v := 0) dX7_start_23 (by decide) ?_
  refine w_iret dX7_start_24 rfl rfl ⟨rfl, rfl⟩ (by decide) (by decide)
set_option maxRecDepth 100000 in
theorem m_start (hR : lkM R N) (hA : aOK A) (h : rM I A c) {k : Nat} (hk : k < A.nr) {m : Nat} (hm : m < 301) : g_Ct E l mX7_start 4 94 0 0 [.ref 79, .int (nI k), .int (nI m)] (I, J, R, D, N, ex) (g_is (some (.int (stS A.ru k m))) (up2 I 79 17 0, J, R, D, N, ex)) := by
  refine g_Ct.of (by decide +kernel) (lb rfl) ?_
  have hN := hR.1
  have h9 := h.thr 0
  have z9 : up2 I 79 17 0 79 17 = 0 := up2_s ..
  have h6 := hA.1
  have est : stF (vS A.ru k) m = stS A.ru k m := (by unfold stF stS; cases perOf (vS A.ru k) m <;> rfl)
  refine w_aload_n dX7_start_0 rfl ?_
  refine w_iconst (v := 0) dX7_start_1 (by decide) ?_
  refine x_puti (ci := 7) (k := 17) dX7_start_2 rfl (by decide) (by decide) (by omega) fl_X7_73 rfl rfl ?_
  refine w_aload_n dX7_start_5 rfl ?_
  refine w_iload_n dX7_start_6 rfl ?_
  refine w_iload_n dX7_start_7 rfl ?_
  refine y_callV dX7_start_8 lk_X7_369 [.int (nI k), .int (nI m)] rfl (m_mayUpTo_t E l (by omega) z9 h9.2.2.2.1.1 h6 hk hm) (g_recv.obj (ci := 7) rfl (by decide) (show 79 < N by omega)) rfl ⟨⟨by decide, by decide⟩, by decide, by decide⟩ (lb rfl) ?_
  refine w_if_eq (tgt := 23) dX7_start_11 (by decide) (fun c_11 => absurd c_11 ((by decide))) (fun c_11 => ?_)
  refine w_aload_n dX7_start_14 rfl ?_
  refine w_iload_n dX7_start_15 rfl ?_
  refine w_iload_n dX7_start_16 rfl ?_
  refine y_callV dX7_start_17 lk_X7_375 [.int (nI k), .int (nI m)] rfl (m_startOf E l hR (show k < 6 by omega) (fun i hi => h9.2.2.2.2.1.1 k hk i hi) hm) (g_recv.obj (ci := 7) rfl (by decide) (show 79 < N by omega)) rfl ⟨⟨by decide, by decide⟩, by decide, by decide⟩ (lb rfl) ?_
  rw [est]
  refine w_goto (tgt := 24) dX7_start_20 (by decide) ?_
  refine w_iret dX7_start_24 rfl rfl ⟨rfl, rfl⟩ (by decide) (by decide)
end ME
