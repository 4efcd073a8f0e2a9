/-! HeapGamesModel: asking rules, on -/
theorem neg_sub {x : Int32} (hx : x < 0) : ∀ n : Nat, n < 1000 → x - nI n ≠ 0 := by
  intro n hn h
  have h2 : x = nI n := by
    have := congrArg (fun y => y + nI n) h
    simpa using this
  rw [h2] at hx
  exact nI_pos (by omega) hx
theorem hwS_neg {f : Nat → Int32} {v : Int32} : ∀ g n (left : Int32), left < 0 → hwS f v g n left = -1
  | 0, _, _, _ => rfl
  | g + 1, n, left, h => by rw [hwS, if_pos h]
theorem pred_nn {x : Int32} (h0 : ¬ x < 0) (h1 : ¬ x = 0) : ¬ x - 1 < 0 := by
  intro h
  rcases i_rng x (2 ^ 31 - 1) (by decide) with ⟨k, hk, rfl⟩ | q
  · cases k with
    | zero => exact h1 rfl
    | succ k => rw [nI_pred] at h; exact nI_pos (by omega) h
  · rcases q with q | q
    · exact h0 q
    · have e : x.toInt = 2 ^ 31 - 1 := by
        rw [Int32.lt_iff_toInt_lt, nI_toInt (by decide)] at q
        have := Int32.toInt_lt x
        omega
      have e2 : x = nI (2 ^ 31 - 1) := Int32.toInt_inj.mp (by rw [e, nI_toInt (by decide)]; rfl)
      subst e2
      exact absurd h (by decide)
theorem inc_m1 (x : Int32) : x + Int32.ofInt (-1) = x - 1 := by rw [Int32.sub_eq_add_neg]; rfl
theorem i_sub1 (x : Int32) (j : Nat) : x - nI j + Int32.ofInt (-1) = x - nI (j + 1) := by
  rw [inc_m1, ← nI_1]
  simp only [Int32.sub_eq_add_neg, Int32.neg_add, Int32.add_assoc]
section MF
variable (E : GE) (l : Launch)
variable {I : Nat → Nat → Int32} {J : Nat → Nat → Int64} {R : Nat → Nat → Option Nat} {D : Nat → Nat → UInt64} {N : Nat} {ex : Bool} {A : AS} {c : Nat}

set_option maxRecDepth 100000 in
theorem m_heapWith_x (hR : lkM R N) (hA : aOK A) (h : rM I A c) {x : Int32} (hx : x < 0 ∨ ¬ x < nI A.nr) (v i : Int32) : g_Ct E l mX7_heapWith 2 43 0 0 [.ref 79, .int x, .int v, .int i] (I, J, R, D, N, ex) (g_is (some (.int 0)) (up2 (up2 I 79 17 0) 79 17 1, J, R, D, N, ex)) := by
  refine g_Ct.of (by decide +kernel) (lb rfl) ?_
  have hN := hR.1
  have h9 := h.thr 0
  have z9 : up2 I 79 17 0 79 17 = 0 := up2_s ..
  have h6 := hA.1
  refine w_aload_n dX7_heapWith_0 rfl ?_
  refine w_iconst (v := 0) dX7_heapWith_1 (by decide) ?_
  refine x_puti (ci := 7) (k := 17) dX7_heapWith_2 rfl (by decide) (by decide) (by omega) fl_X7_73 rfl rfl ?_
  refine w_aload_n dX7_heapWith_5 rfl ?_
  refine w_iload_n dX7_heapWith_6 rfl ?_
  refine y_callV dX7_heapWith_7 lk_X7_366 [.int x] rfl (m_mayRule_f E l (by omega) z9 h9.2.2.2.1.1 h6 hx) (g_recv.obj (ci := 7) rfl (by decide) (show 79 < N by omega)) rfl ⟨⟨by decide, by decide⟩, by decide, by decide⟩ (lb rfl) ?_
  refine w_if_ne (tgt := 15) dX7_heapWith_10 (by decide) (fun c_10 => absurd (rfl) c_10) (fun c_10 => ?_)
  refine w_iconst (v := 0) dX7_heapWith_13 (by decide) ?_
  refine w_iret dX7_heapWith_14 rfl rfl ⟨rfl, rfl⟩ (by decide) (by decide)
set_option maxRecDepth 100000 in
theorem m_heapWith (hR : lkM R N) (hA : aOK A) (h : rM I A c) {k : Nat} (hk : k < A.nr) (v i : Int32) : g_Ct E l mX7_heapWith 2 43 0 0 [.ref 79, .int (nI k), .int v, .int i] (I, J, R, D, N, ex) (g_is (some (.int (hwS (vS A.ru k) v 301 0 i))) (up2 I 79 17 0, J, R, D, N, ex)) := by
  refine g_Ct.of (by decide +kernel) (lb rfl) ?_
  have hN := hR.1
  have h9 := h.thr 0
  have z9 : up2 I 79 17 0 79 17 = 0 := up2_s ..
  have h6 := hA.1
  generalize hQ : hwS (vS A.ru k) v 301 0 i = Q
  have loopN : i < 0 → ∀ (f n j : Nat) (left : Int32), n + f = 301 → left = i - nI j → j ≤ n → Q = -1 → g_Wp E l mX7_heapWith { frames := 2, cells := 0, slots := 0, locals := 43 } (g_Fin E (g_is (some (.int Q)) (up2 I 79 17 0, J, R, D, N, ex)) 0 0) 0 0 21 [(5, .int (nI n)), (4, .int left), (0, .ref 79), (1, .int (nI k)), (2, .int v), (3, .int i)] [] (up2 I 79 17 0, J, R, D, N, ex) := by
    intro hi f
    induction f with
    | zero =>
      intro n j left hn hl hj hq
      obtain rfl : n = 301 := by omega
      refine w_iload dX7_heapWith_21 rfl ?_
      refine w_sipush (v := 300) dX7_heapWith_23 (by decide) ?_
      refine w_icmp_gt (tgt := 60) dX7_heapWith_26 (by decide) (fun c_26 => ?_) (fun c_26 => absurd ((by decide)) c_26)
      refine w_iconst (v := (-1)) dX7_heapWith_60 (by decide) ?_
      refine w_iret dX7_heapWith_61 rfl rfl ⟨by rw [hq], rfl⟩ (by decide) (by decide)
    | succ f ih =>
      intro n j left hn hl hj hq
      refine w_iload dX7_heapWith_21 rfl ?_
      refine w_sipush (v := 300) dX7_heapWith_23 (by decide) ?_
      refine w_icmp_gt (tgt := 60) dX7_heapWith_26 (by decide) (fun c_26 => absurd c_26 ((nI_nlt (a := 300) (by omega) (by omega)))) (fun c_26 => ?_)
      refine w_aload_n dX7_heapWith_29 rfl ?_
      refine w_iload_n dX7_heapWith_30 rfl ?_
      refine w_iload dX7_heapWith_31 rfl ?_
      refine y_callV dX7_heapWith_33 lk_X7_101 [.int (nI k), .int (nI n)] rfl (m_valueOf E l hR.1 hR.2.2.2.2.2.2.2.2.2.2.2.2.1 (show k < 6 by omega) (show n < 301 by omega)) (g_recv.obj (ci := 7) rfl (by decide) (show 79 < N by omega)) rfl ⟨⟨by decide, by decide⟩, by decide, by decide⟩ (lb rfl) ?_
      refine w_iload_n dX7_heapWith_36 rfl ?_
      refine w_icmp_eq (tgt := 43) dX7_heapWith_37 (by decide) (fun c_37 => ?_) (fun c_37 => ?_)
      · refine w_iload dX7_heapWith_43 rfl ?_
        refine w_if_ne (tgt := 51) dX7_heapWith_45 (by decide) (fun c_45 => ?_) (fun c_45 => absurd c_45 ((fun q => neg_sub hi j (by omega) (hl.symm.trans q))))
        refine w_iinc (v := i - nI (j + 1)) dX7_heapWith_51 rfl (by rw [hl]; exact i_sub1 i j) (by decide) rfl ?_
        refine w_iinc (v := nI (n + 1)) dX7_heapWith_54 rfl (nI_inc _) (by decide) rfl ?_
        refine w_goto (tgt := 21) dX7_heapWith_57 (by decide) ?_
        first | exact w_lv [5, 4, 0, 1, 2, 3] (ih (n + 1) (j + 1) _ (by omega) rfl (by omega) hq) | exact w_lv [5, 4, 0, 1, 2, 3] (ih (n + 1) j _ (by omega) hl (by omega) hq)
      · refine w_goto (tgt := 54) dX7_heapWith_40 (by decide) ?_
        refine w_iinc (v := nI (n + 1)) dX7_heapWith_54 rfl (nI_inc _) (by decide) rfl ?_
        refine w_goto (tgt := 21) dX7_heapWith_57 (by decide) ?_
        first | exact w_lv [5, 4, 0, 1, 2, 3] (ih (n + 1) (j + 1) _ (by omega) rfl (by omega) hq) | exact w_lv [5, 4, 0, 1, 2, 3] (ih (n + 1) j _ (by omega) hl (by omega) hq)
  have loopP : ∀ (f n : Nat) (left : Int32), n + f = 301 → ¬ left < 0 → hwS (vS A.ru k) v f n left = Q → g_Wp E l mX7_heapWith { frames := 2, cells := 0, slots := 0, locals := 43 } (g_Fin E (g_is (some (.int Q)) (up2 I 79 17 0, J, R, D, N, ex)) 0 0) 0 0 21 [(5, .int (nI n)), (4, .int left), (0, .ref 79), (1, .int (nI k)), (2, .int v), (3, .int i)] [] (up2 I 79 17 0, J, R, D, N, ex) := by
    intro f
    induction f with
    | zero =>
      intro n left hn hl hq
      obtain rfl : n = 301 := by omega
      refine w_iload dX7_heapWith_21 rfl ?_
      refine w_sipush (v := 300) dX7_heapWith_23 (by decide) ?_
      refine w_icmp_gt (tgt := 60) dX7_heapWith_26 (by decide) (fun c_26 => ?_) (fun c_26 => absurd ((by decide)) c_26)
      refine w_iconst (v := (-1)) dX7_heapWith_60 (by decide) ?_
      refine w_iret dX7_heapWith_61 rfl rfl ⟨by rw [← hq]; rfl, rfl⟩ (by decide) (by decide)
    | succ f ih =>
      intro n left hn hl hq
      rw [hwS, if_neg hl] at hq
      refine w_iload dX7_heapWith_21 rfl ?_
      refine w_sipush (v := 300) dX7_heapWith_23 (by decide) ?_
      refine w_icmp_gt (tgt := 60) dX7_heapWith_26 (by decide) (fun c_26 => absurd c_26 ((nI_nlt (a := 300) (by omega) (by omega)))) (fun c_26 => ?_)
      refine w_aload_n dX7_heapWith_29 rfl ?_
      refine w_iload_n dX7_heapWith_30 rfl ?_
      refine w_iload dX7_heapWith_31 rfl ?_
      refine y_callV dX7_heapWith_33 lk_X7_101 [.int (nI k), .int (nI n)] rfl (m_valueOf E l hR.1 hR.2.2.2.2.2.2.2.2.2.2.2.2.1 (show k < 6 by omega) (show n < 301 by omega)) (g_recv.obj (ci := 7) rfl (by decide) (show 79 < N by omega)) rfl ⟨⟨by decide, by decide⟩, by decide, by decide⟩ (lb rfl) ?_
      rw [h9.2.2.2.2.1.1 k hk n (by omega)]
      refine w_iload_n dX7_heapWith_36 rfl ?_
      refine w_icmp_eq (tgt := 43) dX7_heapWith_37 (by decide) (fun c_37 => ?_) (fun c_37 => ?_)
      · refine w_iload dX7_heapWith_43 rfl ?_
        refine w_if_ne (tgt := 51) dX7_heapWith_45 (by decide) (fun c_45 => ?_) (fun c_45 => ?_)
        · refine w_iinc (v := left - 1) dX7_heapWith_51 rfl (inc_m1 left) (by decide) rfl ?_
          refine w_iinc (v := nI (n + 1)) dX7_heapWith_54 rfl (nI_inc _) (by decide) rfl ?_
          refine w_goto (tgt := 21) dX7_heapWith_57 (by decide) ?_
          first | (rw [if_pos c_37, if_neg c_45] at hq; exact w_lv [5, 4, 0, 1, 2, 3] (ih (n + 1) _ (by omega) (pred_nn hl c_45) hq)) | (rw [if_neg c_37] at hq; exact w_lv [5, 4, 0, 1, 2, 3] (ih (n + 1) _ (by omega) hl hq))
        · refine w_iload dX7_heapWith_48 rfl ?_
          refine w_iret dX7_heapWith_50 rfl rfl ⟨by rw [← hq, if_pos c_37, if_pos c_45], rfl⟩ (by decide) (by decide)
      · refine w_goto (tgt := 54) dX7_heapWith_40 (by decide) ?_
        refine w_iinc (v := nI (n + 1)) dX7_heapWith_54 rfl (nI_inc _) (by decide) rfl ?_
        refine w_goto (tgt := 21) dX7_heapWith_57 (by decide) ?_
        first | (rw [if_pos c_37, if_neg c_45] at hq; exact w_lv [5, 4, 0, 1, 2, 3] (ih (n + 1) _ (by omega) (pred_nn hl c_45) hq)) | (rw [if_neg c_37] at hq; exact w_lv [5, 4, 0, 1, 2, 3] (ih (n + 1) _ (by omega) hl hq))
  refine w_aload_n dX7_heapWith_0 rfl ?_
  refine w_iconst (v := 0) dX7_heapWith_1 (by decide) ?_
  refine x_puti (ci := 7) (k := 17) dX7_heapWith_2 rfl (by decide) (by decide) (by omega) fl_X7_73 rfl rfl ?_
  refine w_aload_n dX7_heapWith_5 rfl ?_
  refine w_iload_n dX7_heapWith_6 rfl ?_
  refine y_callV dX7_heapWith_7 lk_X7_366 [.int (nI k)] rfl (m_mayRule_t E l (by omega) z9 h9.2.2.2.1.1 h6 hk) (g_recv.obj (ci := 7) rfl (by decide) (show 79 < N by omega)) rfl ⟨⟨by decide, by decide⟩, by decide, by decide⟩ (lb rfl) ?_
  refine w_if_ne (tgt := 15) dX7_heapWith_10 (by decide) (fun c_10 => ?_) (fun c_10 => absurd c_10 ((by decide)))
  refine w_iload_n dX7_heapWith_15 rfl ?_
  refine w_istore dX7_heapWith_16 (by decide) rfl ?_
  refine w_iconst (v := 0) dX7_heapWith_18 (by decide) ?_
  refine w_istore dX7_heapWith_19 (by decide) rfl ?_
  by_cases hi : i < 0
  · exact w_lv [5, 4, 0, 1, 2, 3] (loopN hi 301 0 0 i (by omega) (by show i = i - 0; simp) (by omega) (by rw [← hQ]; exact hwS_neg _ _ _ hi))
  · exact w_lv [5, 4, 0, 1, 2, 3] (loopP 301 0 i (by omega) hi hQ)
set_option maxRecDepth 100000 in
theorem m_greatest_x1 (hR : lkM R N) (hA : aOK A) (h : rM I A c) {x : Int32} (hx : x < 0 ∨ ¬ x < nI A.nr) (z : Int32) : g_Ct E l mX7_greatest 3 65 0 0 [.ref 79, .int x, .int z] (I, J, R, D, N, ex) (g_is (some (.int 0)) (up2 (up2 I 79 17 0) 79 17 1, J, R, D, N, ex)) := by
  refine g_Ct.of (by decide +kernel) (lb rfl) ?_
  have hN := hR.1
  have h9 := h.thr 0
  have z9 : up2 I 79 17 0 79 17 = 0 := up2_s ..
  have h6 := hA.1
  refine w_aload_n dX7_greatest_0 rfl ?_
  refine w_iconst (v := 0) dX7_greatest_1 (by decide) ?_
  refine x_puti (ci := 7) (k := 17) dX7_greatest_2 rfl (by decide) (by decide) (by omega) fl_X7_73 rfl rfl ?_
  refine w_aload_n dX7_greatest_5 rfl ?_
  refine w_iload_n dX7_greatest_6 rfl ?_
  refine w_iload_n dX7_greatest_7 rfl ?_
  refine y_callV dX7_greatest_8 lk_X7_369 [.int x, .int z] rfl (m_mayUpTo_f1 E l (by omega) z9 h9.2.2.2.1.1 h6 hx z) (g_recv.obj (ci := 7) rfl (by decide) (show 79 < N by omega)) rfl ⟨⟨by decide, by decide⟩, by decide, by decide⟩ (lb rfl) ?_
  refine w_if_ne (tgt := 16) dX7_greatest_11 (by decide) (fun c_11 => absurd (rfl) c_11) (fun c_11 => ?_)
  refine w_iconst (v := 0) dX7_greatest_14 (by decide) ?_
  refine w_iret dX7_greatest_15 rfl rfl ⟨rfl, rfl⟩ (by decide) (by decide)
set_option maxRecDepth 100000 in
theorem m_greatest_x2 (hR : lkM R N) (hA : aOK A) (h : rM I A c) {k : Nat} (hk : k < A.nr) {z : Int32} (hz : z < 0 ∨ ¬ z < nI 301) : g_Ct E l mX7_greatest 3 65 0 0 [.ref 79, .int (nI k), .int z] (I, J, R, D, N, ex) (g_is (some (.int 0)) (up2 (up2 I 79 17 0) 79 17 2, J, R, D, N, ex)) := by
  refine g_Ct.of (by decide +kernel) (lb rfl) ?_
  have hN := hR.1
  have h9 := h.thr 0
  have z9 : up2 I 79 17 0 79 17 = 0 := up2_s ..
  have h6 := hA.1
  refine w_aload_n dX7_greatest_0 rfl ?_
  refine w_iconst (v := 0) dX7_greatest_1 (by decide) ?_
  refine x_puti (ci := 7) (k := 17) dX7_greatest_2 rfl (by decide) (by decide) (by omega) fl_X7_73 rfl rfl ?_
  refine w_aload_n dX7_greatest_5 rfl ?_
  refine w_iload_n dX7_greatest_6 rfl ?_
  refine w_iload_n dX7_greatest_7 rfl ?_
  refine y_callV dX7_greatest_8 lk_X7_369 [.int (nI k), .int z] rfl (m_mayUpTo_f2 E l (by omega) z9 h9.2.2.2.1.1 h6 hk hz) (g_recv.obj (ci := 7) rfl (by decide) (show 79 < N by omega)) rfl ⟨⟨by decide, by decide⟩, by decide, by decide⟩ (lb rfl) ?_
  refine w_if_ne (tgt := 16) dX7_greatest_11 (by decide) (fun c_11 => absurd (rfl) c_11) (fun c_11 => ?_)
  refine w_iconst (v := 0) dX7_greatest_14 (by decide) ?_
  refine w_iret dX7_greatest_15 rfl rfl ⟨rfl, rfl⟩ (by decide) (by decide)
set_option maxRecDepth 100000 in
theorem m_greatest (hR : lkM R N) (hA : aOK A) (h : rM I A c) {k : Nat} (hk : k < A.nr) {m : Nat} (hm : m < 301) : g_Ct E l mX7_greatest 3 65 0 0 [.ref 79, .int (nI k), .int (nI m)] (I, J, R, D, N, ex) (g_is (some (.int (nI (mxR (gv (A.ru.1 k) (A.ru.2.1 k)) (m + 1))))) (up2 I 79 17 0, J, R, D, N, ex)) := by
  refine g_Ct.of (by decide +kernel) (lb rfl) ?_
  have hN := hR.1
  have h9 := h.thr 0
  have z9 : up2 I 79 17 0 79 17 = 0 := up2_s ..
  have h6 := hA.1
  have mxN : ∀ n, n ≤ 301 → mxR (gv (A.ru.1 k) (A.ru.2.1 k)) n ≤ 300 := by
    intro n
    induction n with
    | zero => intro _; exact Nat.zero_le _
    | succ n ih => intro hn; rw [mxR]; have := ih (by omega); have := gv_le (A.ru.1 k) (A.ru.2.1 k) n; omega
  have loop : ∀ f n : Nat, n + f = m + 1 → g_Wp E l mX7_greatest { frames := 3, cells := 0, slots := 0, locals := 65 } (g_Fin E (g_is (some (.int (nI (mxR (gv (A.ru.1 k) (A.ru.2.1 k)) (m + 1))))) (up2 I 79 17 0, J, R, D, N, ex)) 0 0) 0 0 21 [(4, .int (nI n)), (3, .int (nI (mxR (gv (A.ru.1 k) (A.ru.2.1 k)) n))), (0, .ref 79), (1, .int (nI k)), (2, .int (nI m))] [] (up2 I 79 17 0, J, R, D, N, ex) := by
    intro f
    induction f with
    | zero =>
      intro n hn
      obtain rfl : n = m + 1 := by omega
      refine w_iload dX7_greatest_21 rfl ?_
      refine w_iload_n dX7_greatest_23 rfl ?_
      refine w_icmp_gt (tgt := 56) dX7_greatest_24 (by decide) (fun c_24 => ?_) (fun c_24 => absurd ((nI_lt (by omega) (by omega))) c_24)
      refine w_iload_n dX7_greatest_56 rfl ?_
      refine w_iret dX7_greatest_57 rfl rfl ⟨rfl, rfl⟩ (by decide) (by decide)
    | succ f ih =>
      intro n hn
      have g1 := gv_le (A.ru.1 k) (A.ru.2.1 k) n
      have g2 : mxR (gv (A.ru.1 k) (A.ru.2.1 k)) n ≤ 300 := mxN n (by omega)
      have e : mxR (gv (A.ru.1 k) (A.ru.2.1 k)) (n + 1) = max (mxR (gv (A.ru.1 k) (A.ru.2.1 k)) n) (gv (A.ru.1 k) (A.ru.2.1 k) n) := rfl
      have t := ih (n + 1) (by omega)
      rw [e] at t
      refine w_iload dX7_greatest_21 rfl ?_
      refine w_iload_n dX7_greatest_23 rfl ?_
      refine w_icmp_gt (tgt := 56) dX7_greatest_24 (by decide) (fun c_24 => absurd c_24 ((nI_nlt (by omega) (by omega)))) (fun c_24 => ?_)
      refine w_aload_n dX7_greatest_27 rfl ?_
      refine w_iload_n dX7_greatest_28 rfl ?_
      refine w_iload dX7_greatest_29 rfl ?_
      refine y_callV dX7_greatest_31 lk_X7_101 [.int (nI k), .int (nI n)] rfl (m_valueOf E l hR.1 hR.2.2.2.2.2.2.2.2.2.2.2.2.1 (show k < 6 by omega) (show n < 301 by omega)) (g_recv.obj (ci := 7) rfl (by decide) (show 79 < N by omega)) rfl ⟨⟨by decide, by decide⟩, by decide, by decide⟩ (lb rfl) ?_
      rw [h9.2.2.2.2.1.1 k hk n (by omega)]
      refine w_iload_n dX7_greatest_34 rfl ?_
      refine w_icmp_le (tgt := 48) dX7_greatest_35 (by decide) (fun c_35 => ?_) (fun c_35 => ?_)
      · refine w_iload_n dX7_greatest_48 rfl ?_
        refine w_istore_n dX7_greatest_49 (by decide) rfl ?_
        refine w_iinc (v := nI (n + 1)) dX7_greatest_50 rfl (nI_inc _) (by decide) rfl ?_
        refine w_goto (tgt := 21) dX7_greatest_53 (by decide) ?_
        first | (rw [Nat.max_eq_left (n_le (a := gv (A.ru.1 k) (A.ru.2.1 k) n) c_35)] at t; exact w_lv [4, 3, 0, 1, 2] t) | (rw [Nat.max_eq_right (Nat.le_of_lt (n_nle (a := gv (A.ru.1 k) (A.ru.2.1 k) n) c_35))] at t; exact w_lv [4, 3, 0, 1, 2] t)
      · refine w_aload_n dX7_greatest_38 rfl ?_
        refine w_iload_n dX7_greatest_39 rfl ?_
        refine w_iload dX7_greatest_40 rfl ?_
        refine y_callV dX7_greatest_42 lk_X7_101 [.int (nI k), .int (nI n)] rfl (m_valueOf E l hR.1 hR.2.2.2.2.2.2.2.2.2.2.2.2.1 (show k < 6 by omega) (show n < 301 by omega)) (g_recv.obj (ci := 7) rfl (by decide) (show 79 < N by omega)) rfl ⟨⟨by decide, by decide⟩, by decide, by decide⟩ (lb rfl) ?_
        rw [h9.2.2.2.2.1.1 k hk n (by omega)]
        refine w_goto (tgt := 49) dX7_greatest_45 (by decide) ?_
        refine w_istore_n dX7_greatest_49 (by decide) rfl ?_
        refine w_iinc (v := nI (n + 1)) dX7_greatest_50 rfl (nI_inc _) (by decide) rfl ?_
        refine w_goto (tgt := 21) dX7_greatest_53 (by decide) ?_
        first | (rw [Nat.max_eq_left (n_le (a := gv (A.ru.1 k) (A.ru.2.1 k) n) c_35)] at t; exact w_lv [4, 3, 0, 1, 2] t) | (rw [Nat.max_eq_right (Nat.le_of_lt (n_nle (a := gv (A.ru.1 k) (A.ru.2.1 k) n) c_35))] at t; exact w_lv [4, 3, 0, 1, 2] t)
  refine w_aload_n dX7_greatest_0 rfl ?_
  refine w_iconst (v := 0) dX7_greatest_1 (by decide) ?_
  refine x_puti (ci := 7) (k := 17) dX7_greatest_2 rfl (by decide) (by decide) (by omega) fl_X7_73 rfl rfl ?_
  refine w_aload_n dX7_greatest_5 rfl ?_
  refine w_iload_n dX7_greatest_6 rfl ?_
  refine w_iload_n dX7_greatest_7 rfl ?_
  refine y_callV dX7_greatest_8 lk_X7_369 [.int (nI k), .int (nI m)] rfl (m_mayUpTo_t E l (by omega) z9 h9.2.2.2.1.1 h6 hk hm) (g_recv.obj (ci := 7) rfl (by decide) (show 79 < N by omega)) rfl ⟨⟨by decide, by decide⟩, by decide, by decide⟩ (lb rfl) ?_
  refine w_if_ne (tgt := 16) dX7_greatest_11 (by decide) (fun c_11 => ?_) (fun c_11 => absurd c_11 ((by decide)))
  refine w_iconst (v := 0) dX7_greatest_16 (by decide) ?_
  refine w_istore_n dX7_greatest_17 (by decide) rfl ?_
  refine w_iconst (v := 0) dX7_greatest_18 (by decide) ?_
  refine w_istore dX7_greatest_19 (by decide) rfl ?_
  exact w_lv [4, 3, 0, 1, 2] (loop (m + 1) 0 (by omega))
set_option maxRecDepth 100000 in
theorem m_zeros_x1 (hR : lkM R N) (hA : aOK A) (h : rM I A c) {x : Int32} (hx : x < 0 ∨ ¬ x < nI A.nr) (z : Int32) : g_Ct E l mX7_zeros 3 65 0 0 [.ref 79, .int x, .int z] (I, J, R, D, N, ex) (g_is (some (.double 0)) (up2 (up2 I 79 17 0) 79 17 1, J, R, D, N, ex)) := by
  refine g_Ct.of (by decide +kernel) (lb rfl) ?_
  have hN := hR.1
  have h9 := h.thr 0
  have z9 : up2 I 79 17 0 79 17 = 0 := up2_s ..
  have h6 := hA.1
  refine w_aload_n dX7_zeros_0 rfl ?_
  refine w_iconst (v := 0) dX7_zeros_1 (by decide) ?_
  refine x_puti (ci := 7) (k := 17) dX7_zeros_2 rfl (by decide) (by decide) (by omega) fl_X7_73 rfl rfl ?_
  refine w_aload_n dX7_zeros_5 rfl ?_
  refine w_iload_n dX7_zeros_6 rfl ?_
  refine w_iload_n dX7_zeros_7 rfl ?_
  refine y_callV dX7_zeros_8 lk_X7_369 [.int x, .int z] rfl (m_mayUpTo_f1 E l (by omega) z9 h9.2.2.2.1.1 h6 hx z) (g_recv.obj (ci := 7) rfl (by decide) (show 79 < N by omega)) rfl ⟨⟨by decide, by decide⟩, by decide, by decide⟩ (lb rfl) ?_
  refine w_if_ne (tgt := 16) dX7_zeros_11 (by decide) (fun c_11 => absurd (rfl) c_11) (fun c_11 => ?_)
  refine w_dconst0 dX7_zeros_14 ?_
  refine w_dret dX7_zeros_15 rfl ⟨rfl, rfl⟩ (by decide) (by decide)
set_option maxRecDepth 100000 in
theorem m_zeros_x2 (hR : lkM R N) (hA : aOK A) (h : rM I A c) {k : Nat} (hk : k < A.nr) {z : Int32} (hz : z < 0 ∨ ¬ z < nI 301) : g_Ct E l mX7_zeros 3 65 0 0 [.ref 79, .int (nI k), .int z] (I, J, R, D, N, ex) (g_is (some (.double 0)) (up2 (up2 I 79 17 0) 79 17 2, J, R, D, N, ex)) := by
  refine g_Ct.of (by decide +kernel) (lb rfl) ?_
  have hN := hR.1
  have h9 := h.thr 0
  have z9 : up2 I 79 17 0 79 17 = 0 := up2_s ..
  have h6 := hA.1
  refine w_aload_n dX7_zeros_0 rfl ?_
  refine w_iconst (v := 0) dX7_zeros_1 (by decide) ?_
  refine x_puti (ci := 7) (k := 17) dX7_zeros_2 rfl (by decide) (by decide) (by omega) fl_X7_73 rfl rfl ?_
  refine w_aload_n dX7_zeros_5 rfl ?_
  refine w_iload_n dX7_zeros_6 rfl ?_
  refine w_iload_n dX7_zeros_7 rfl ?_
  refine y_callV dX7_zeros_8 lk_X7_369 [.int (nI k), .int z] rfl (m_mayUpTo_f2 E l (by omega) z9 h9.2.2.2.1.1 h6 hk hz) (g_recv.obj (ci := 7) rfl (by decide) (show 79 < N by omega)) rfl ⟨⟨by decide, by decide⟩, by decide, by decide⟩ (lb rfl) ?_
  refine w_if_ne (tgt := 16) dX7_zeros_11 (by decide) (fun c_11 => absurd (rfl) c_11) (fun c_11 => ?_)
  refine w_dconst0 dX7_zeros_14 ?_
  refine w_dret dX7_zeros_15 rfl ⟨rfl, rfl⟩ (by decide) (by decide)
set_option maxRecDepth 100000 in
theorem m_zeros (hR : lkM R N) (hA : aOK A) (h : rM I A c) {k : Nat} (hk : k < A.nr) {m : Nat} (hm : m < 301) : g_Ct E l mX7_zeros 3 65 0 0 [.ref 79, .int (nI k), .int (nI m)] (I, J, R, D, N, ex) (g_is (some (.double (zrS A.ru k m))) (up2 I 79 17 0, J, R, D, N, ex)) := by
  refine g_Ct.of (by decide +kernel) (lb rfl) ?_
  have hN := hR.1
  have h9 := h.thr 0
  have z9 : up2 I 79 17 0 79 17 = 0 := up2_s ..
  have h6 := hA.1
  have loop : ∀ f n : Nat, n + f = m + 1 → g_Wp E l mX7_zeros { frames := 3, cells := 0, slots := 0, locals := 65 } (g_Fin E (g_is (some (.double (zrS A.ru k m))) (up2 I 79 17 0, J, R, D, N, ex)) 0 0) 0 0 21 [(4, .int (nI n)), (3, .int (nI (zcS A.ru k n))), (0, .ref 79), (1, .int (nI k)), (2, .int (nI m))] [] (up2 I 79 17 0, J, R, D, N, ex) := by
    intro f
    induction f with
    | zero =>
      intro n hn
      obtain rfl : n = m + 1 := by omega
      refine w_iload dX7_zeros_21 rfl ?_
      refine w_iload_n dX7_zeros_23 rfl ?_
      refine w_icmp_gt (tgt := 51) dX7_zeros_24 (by decide) (fun c_24 => ?_) (fun c_24 => absurd ((nI_lt (by omega) (by omega))) c_24)
      refine w_iload_n dX7_zeros_51 rfl ?_
      refine w_i2d dX7_zeros_52 ?_
      refine w_iload_n dX7_zeros_53 rfl ?_
      refine w_iconst (v := 1) dX7_zeros_54 (by decide) ?_
      refine w_iadd dX7_zeros_55 ?_
      rw [nI_1]
      refine w_i2d dX7_zeros_56 ?_
      refine w_ddiv dX7_zeros_57 (num_n64 (ddiv_num (zr_ne hm))) ?_
      refine w_dret dX7_zeros_58 rfl ⟨rfl, rfl⟩ (by decide) (by decide)
    | succ f ih =>
      intro n hn
      have t := ih (n + 1) (by omega)
      rw [zcS] at t
      refine w_iload dX7_zeros_21 rfl ?_
      refine w_iload_n dX7_zeros_23 rfl ?_
      refine w_icmp_gt (tgt := 51) dX7_zeros_24 (by decide) (fun c_24 => absurd c_24 ((nI_nlt (by omega) (by omega)))) (fun c_24 => ?_)
      refine w_iload_n dX7_zeros_27 rfl ?_
      refine w_aload_n dX7_zeros_28 rfl ?_
      refine w_iload_n dX7_zeros_29 rfl ?_
      refine w_iload dX7_zeros_30 rfl ?_
      refine y_callV dX7_zeros_32 lk_X7_101 [.int (nI k), .int (nI n)] rfl (m_valueOf E l hR.1 hR.2.2.2.2.2.2.2.2.2.2.2.2.1 (show k < 6 by omega) (show n < 301 by omega)) (g_recv.obj (ci := 7) rfl (by decide) (show 79 < N by omega)) rfl ⟨⟨by decide, by decide⟩, by decide, by decide⟩ (lb rfl) ?_
      rw [h9.2.2.2.2.1.1 k hk n (by omega)]
      refine w_if_ne (tgt := 42) dX7_zeros_35 (by decide) (fun c_35 => ?_) (fun c_35 => ?_)
      · refine w_iconst (v := 0) dX7_zeros_42 (by decide) ?_
        refine w_iadd dX7_zeros_43 ?_
        first | (rw [if_pos c_35] at t; refine w_st (show _ = [.int (nI (zcS A.ru k n + 1))] from by rw [← nI_1]) ?_) | (rw [if_neg c_35] at t; refine w_st (show _ = [.int (nI (zcS A.ru k n + 0))] from by rw [← nI_add]; rfl) ?_)
        refine w_istore_n dX7_zeros_44 (by decide) rfl ?_
        refine w_iinc (v := nI (n + 1)) dX7_zeros_45 rfl (nI_inc _) (by decide) rfl ?_
        refine w_goto (tgt := 21) dX7_zeros_48 (by decide) ?_
        exact w_lv [4, 3, 0, 1, 2] t
      · refine w_iconst (v := 1) dX7_zeros_38 (by decide) ?_
        refine w_goto (tgt := 43) dX7_zeros_39 (by decide) ?_
        refine w_iadd dX7_zeros_43 ?_
        first | (rw [if_pos c_35] at t; refine w_st (show _ = [.int (nI (zcS A.ru k n + 1))] from by rw [← nI_1]) ?_) | (rw [if_neg c_35] at t; refine w_st (show _ = [.int (nI (zcS A.ru k n + 0))] from by rw [← nI_add]; rfl) ?_)
        refine w_istore_n dX7_zeros_44 (by decide) rfl ?_
        refine w_iinc (v := nI (n + 1)) dX7_zeros_45 rfl (nI_inc _) (by decide) rfl ?_
        refine w_goto (tgt := 21) dX7_zeros_48 (by decide) ?_
        exact w_lv [4, 3, 0, 1, 2] t
  refine w_aload_n dX7_zeros_0 rfl ?_
  refine w_iconst (v := 0) dX7_zeros_1 (by decide) ?_
  refine x_puti (ci := 7) (k := 17) dX7_zeros_2 rfl (by decide) (by decide) (by omega) fl_X7_73 rfl rfl ?_
  refine w_aload_n dX7_zeros_5 rfl ?_
  refine w_iload_n dX7_zeros_6 rfl ?_
  refine w_iload_n dX7_zeros_7 rfl ?_
  refine y_callV dX7_zeros_8 lk_X7_369 [.int (nI k), .int (nI m)] rfl (m_mayUpTo_t E l (by omega) z9 h9.2.2.2.1.1 h6 hk hm) (g_recv.obj (ci := 7) rfl (by decide) (show 79 < N by omega)) rfl ⟨⟨by decide, by decide⟩, by decide, by decide⟩ (lb rfl) ?_
  refine w_if_ne (tgt := 16) dX7_zeros_11 (by decide) (fun c_11 => ?_) (fun c_11 => absurd c_11 ((by decide)))
  refine w_iconst (v := 0) dX7_zeros_16 (by decide) ?_
  refine w_istore_n dX7_zeros_17 (by decide) rfl ?_
  refine w_iconst (v := 0) dX7_zeros_18 (by decide) ?_
  refine w_istore dX7_zeros_19 (by decide) rfl ?_
  exact w_lv [4, 3, 0, 1, 2] (loop (m + 1) 0 (by omega))
end MF
