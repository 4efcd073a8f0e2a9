/-! HeapGames$TextReader: words -/
def eqW (tx : Nat → Nat) (s i : Nat) : Nat → Bool
  | 0 => true
  | n + 1 => eqW tx s i n && decide (sx (tx (s + n)) = wb i n)
theorem eqW_no {tx : Nat → Nat} {s i : Nat} : ∀ {m n : Nat}, n ≤ m → eqW tx s i n = false → eqW tx s i m = false
  | 0, n, h, e => by obtain rfl : n = 0 := by omega
                     exact e
  | m + 1, n, h, e => by
    rcases Nat.lt_or_ge m n with z | z
    · obtain rfl : n = m + 1 := by omega
      exact e
    · rw [eqW, eqW_no z e]; rfl
def isW (tx : Nat → Nat) (L a i : Nat) : Bool := decide (tkK tx L a = 1 ∧ tkN tx L a = wl i) && eqW tx (tkS tx L a) i (wl i)
def kdS (tx : Nat → Nat) (L a : Nat) : Int32 := if isW tx L a 5 then 0 else if isW tx L a 6 then 1 else if isW tx L a 7 then 2 else if isW tx L a 8 then 3 else if isW tx L a 9 then 4 else -1
section WD
variable (E : GE) (l : Launch)
variable {I : Nat → Nat → Int32} {J : Nat → Nat → Int64} {R : Nat → Nat → Option Nat} {D : Nat → Nat → UInt64} {N : Nat} {ex : Bool} {tx : Nat → Nat} {L a : Nat}
set_option maxRecDepth 100000 in
theorem c_isWord (hR : R 23 0 = some 24) (hN : 24 < N) (hr : rdC I tx L) (ht : tkC I tx L a) (ha : a ≤ L) {i : Nat} (hi : i < 21) : g_Ct E l mX5_isWord 4 85 0 0 [.ref 23, .ref (1001 + i)] (I, J, R, D, N, ex) (g_is (some (.int (b2i (isW tx L a i)))) (I, J, R, D, N, ex)) := by
  refine g_Ct.of (by decide +kernel) (lb rfl) ?_
  have hL := hr.2.1
  have hb := tk_b (tx := tx) ha
  have hk : tkK tx L a ≤ 4 := kb_le _ _ _
  have hn : tkN tx L a ≤ 400 := by unfold tkN; omega
  have hw := wl_lt i hi
  have hE : tkE tx L a = tkS tx L a + tkN tx L a := by unfold tkN; omega
  have loop : tkK tx L a = 1 → tkN tx L a = wl i → ∀ f j : Nat, j + f = wl i → eqW tx (tkS tx L a) i j = true → g_Wp E l mX5_isWord { frames := 4, cells := 0, slots := 0, locals := 85 } (g_Fin E (g_is (some (.int (b2i (isW tx L a i)))) (I, J, R, D, N, ex)) 0 0) 0 0 23 [(2, .int (nI j)), (0, .ref 23), (1, .ref (1001 + i))] [] (I, J, R, D, N, ex) := by
    intro h1 h2 f
    induction f with
    | zero =>
      intro j hj he
      obtain rfl : j = wl i := by omega
      refine w_iload_n dX5_isWord_23 rfl ?_
      refine w_aload_n dX5_isWord_24 rfl ?_
      refine y_callV dX5_isWord_25 lk_X5_159 [] rfl (c_S_length E l _ hi) (g_recv.str hi) rfl ⟨⟨by decide, by decide⟩, by decide, by decide⟩ (lb rfl) ?_
      refine w_icmp_ge (tgt := 57) dX5_isWord_28 (by decide) (fun c_28 => ?_) (fun c_28 => absurd ((nI_le (by omega) (by omega))) c_28)
      refine w_iconst (v := 1) dX5_isWord_57 (by decide) ?_
      refine w_iret dX5_isWord_58 rfl rfl ⟨rt_t (by unfold isW; rw [decide_eq_true ⟨h1, h2⟩, he]; rfl), rfl⟩ (by decide) (by decide)
    | succ f ih =>
      intro j hj he
      refine w_iload_n dX5_isWord_23 rfl ?_
      refine w_aload_n dX5_isWord_24 rfl ?_
      refine y_callV dX5_isWord_25 lk_X5_159 [] rfl (c_S_length E l _ hi) (g_recv.str hi) rfl ⟨⟨by decide, by decide⟩, by decide, by decide⟩ (lb rfl) ?_
      refine w_icmp_ge (tgt := 57) dX5_isWord_28 (by decide) (fun c_28 => absurd c_28 ((nI_ge (by omega) (by omega)))) (fun c_28 => ?_)
      refine w_aload_n dX5_isWord_31 rfl ?_
      refine w_aload_n dX5_isWord_32 rfl ?_
      refine x_geti (ci := 5) (k := 3) dX5_isWord_33 rfl (by decide) (by decide) (by omega) fl_X5_143 rfl ?_
      rw [ht.1]
      refine w_iload_n dX5_isWord_36 rfl ?_
      refine w_iadd dX5_isWord_37 ?_
      rw [nI_add]
      refine y_callV dX5_isWord_38 lk_X5_149 [.int (nI (tkS tx L a + j))] rfl (c_byteAt E l hR hN hr (show tkS tx L a + j < L by omega)) (g_recv.obj (ci := 5) rfl (by decide) (show 23 < N by omega)) rfl ⟨⟨by decide, by decide⟩, by decide, by decide⟩ (lb rfl) ?_
      refine w_aload_n dX5_isWord_41 rfl ?_
      refine w_iload_n dX5_isWord_42 rfl ?_
      refine y_callV dX5_isWord_43 lk_X5_164 [.int (nI j)] rfl (c_S_charAt E l _ hi (show j < wl i by omega)) (g_recv.str hi) rfl ⟨⟨by decide, by decide⟩, by decide, by decide⟩ (lb rfl) ?_
      refine w_icmp_eq (tgt := 51) dX5_isWord_46 (by decide) (fun c_46 => ?_) (fun c_46 => ?_)
      · refine w_iinc (v := nI (j + 1)) dX5_isWord_51 rfl (nI_inc _) (by decide) rfl ?_
        refine w_goto (tgt := 23) dX5_isWord_54 (by decide) ?_
        exact w_lv [2, 0, 1] (ih (j + 1) (by omega) (by rw [eqW, he, decide_eq_true c_46]; rfl))
      · refine w_iconst (v := 0) dX5_isWord_49 (by decide) ?_
        refine w_iret dX5_isWord_50 rfl rfl ⟨rt_f (by unfold isW; rw [eqW_no (n := j + 1) (by omega) (by rw [eqW, decide_eq_false c_46, Bool.and_false]), Bool.and_false]), rfl⟩ (by decide) (by decide)
  refine w_aload_n dX5_isWord_0 rfl ?_
  refine x_geti (ci := 5) (k := 5) dX5_isWord_1 rfl (by decide) (by decide) (by omega) fl_X5_48 rfl ?_
  rw [ht.2.2]
  refine w_iconst (v := 1) dX5_isWord_4 (by decide) ?_
  refine w_icmp_ne (tgt := 19) dX5_isWord_5 (by decide) (fun c_5 => ?_) (fun c_5 => ?_)
  · refine w_iconst (v := 0) dX5_isWord_19 (by decide) ?_
    refine w_iret dX5_isWord_20 rfl rfl (by first | exact ⟨rt_f (by unfold isW; rw [decide_eq_false (fun q => c_16 (by rw [q.2]))]; rfl), rfl⟩ | exact ⟨rt_f (by unfold isW; rw [decide_eq_false (fun q => c_5 (by rw [q.1]; rfl))]; rfl), rfl⟩) (by decide) (by decide)
  · refine w_aload_n dX5_isWord_8 rfl ?_
    refine y_callV dX5_isWord_9 lk_X5_156 [] rfl (c_tokenLength E l hN ht ha hL) (g_recv.obj (ci := 5) rfl (by decide) (show 23 < N by omega)) rfl ⟨⟨by decide, by decide⟩, by decide, by decide⟩ (lb rfl) ?_
    refine w_aload_n dX5_isWord_12 rfl ?_
    refine y_callV dX5_isWord_13 lk_X5_159 [] rfl (c_S_length E l _ hi) (g_recv.str hi) rfl ⟨⟨by decide, by decide⟩, by decide, by decide⟩ (lb rfl) ?_
    refine w_icmp_eq (tgt := 21) dX5_isWord_16 (by decide) (fun c_16 => ?_) (fun c_16 => ?_)
    · refine w_iconst (v := 0) dX5_isWord_21 (by decide) ?_
      refine w_istore_n dX5_isWord_22 (by decide) rfl ?_
      exact w_lv [2, 0, 1] (loop (n_eq (b := 1) c_5) (n_eq c_16) (wl i) 0 (by omega) rfl)
    · refine w_iconst (v := 0) dX5_isWord_19 (by decide) ?_
      refine w_iret dX5_isWord_20 rfl rfl (by first | exact ⟨rt_f (by unfold isW; rw [decide_eq_false (fun q => c_16 (by rw [q.2]))]; rfl), rfl⟩ | exact ⟨rt_f (by unfold isW; rw [decide_eq_false (fun q => c_5 (by rw [q.1]; rfl))]; rfl), rfl⟩) (by decide) (by decide)
set_option maxRecDepth 100000 in
theorem c_kindOfToken (hR : R 23 0 = some 24) (hN : 24 < N) (hr : rdC I tx L) (ht : tkC I tx L a) (ha : a ≤ L) : g_Ct E l mX5_kindOfToken 5 107 0 0 [.ref 23] (I, J, R, D, N, ex) (g_is (some (.int (kdS tx L a))) (I, J, R, D, N, ex)) := by
  refine g_Ct.of (by decide +kernel) (lb rfl) ?_
  refine w_aload_n dX5_kindOfToken_0 rfl ?_
  refine w_ldcS (i := 5) (tx := "take") dX5_kindOfToken_1 (by decide +kernel) (by decide) ?_
  refine y_callV dX5_kindOfToken_3 lk_X5_61 [.ref (1001 + 5)] rfl (c_isWord E l hR hN hr ht ha (show 5 < 21 by decide)) (g_recv.obj (ci := 5) rfl (by decide) (show 23 < N by omega)) rfl ⟨⟨by decide, by decide⟩, by decide, by decide⟩ (lb rfl) ?_
  refine w_if_eq (tgt := 11) dX5_kindOfToken_6 (by decide) (fun c_6 => ?_) (fun c_6 => ?_)
  · refine w_aload_n dX5_kindOfToken_11 rfl ?_
    refine w_ldcS (i := 6) (tx := "divisors") dX5_kindOfToken_12 (by decide +kernel) (by decide) ?_
    refine y_callV dX5_kindOfToken_14 lk_X5_61 [.ref (1001 + 6)] rfl (c_isWord E l hR hN hr ht ha (show 6 < 21 by decide)) (g_recv.obj (ci := 5) rfl (by decide) (show 23 < N by omega)) rfl ⟨⟨by decide, by decide⟩, by decide, by decide⟩ (lb rfl) ?_
    refine w_if_eq (tgt := 22) dX5_kindOfToken_17 (by decide) (fun c_17 => ?_) (fun c_17 => ?_)
    · refine w_aload_n dX5_kindOfToken_22 rfl ?_
      refine w_ldcS (i := 7) (tx := "half") dX5_kindOfToken_23 (by decide +kernel) (by decide) ?_
      refine y_callV dX5_kindOfToken_25 lk_X5_61 [.ref (1001 + 7)] rfl (c_isWord E l hR hN hr ht ha (show 7 < 21 by decide)) (g_recv.obj (ci := 5) rfl (by decide) (show 23 < N by omega)) rfl ⟨⟨by decide, by decide⟩, by decide, by decide⟩ (lb rfl) ?_
      refine w_if_eq (tgt := 33) dX5_kindOfToken_28 (by decide) (fun c_28 => ?_) (fun c_28 => ?_)
      · refine w_aload_n dX5_kindOfToken_33 rfl ?_
        refine w_ldcS (i := 8) (tx := "powers") dX5_kindOfToken_34 (by decide +kernel) (by decide) ?_
        refine y_callV dX5_kindOfToken_36 lk_X5_61 [.ref (1001 + 8)] rfl (c_isWord E l hR hN hr ht ha (show 8 < 21 by decide)) (g_recv.obj (ci := 5) rfl (by decide) (show 23 < N by omega)) rfl ⟨⟨by decide, by decide⟩, by decide, by decide⟩ (lb rfl) ?_
        refine w_if_eq (tgt := 44) dX5_kindOfToken_39 (by decide) (fun c_39 => ?_) (fun c_39 => ?_)
        · refine w_aload_n dX5_kindOfToken_44 rfl ?_
          refine w_ldcS (i := 9) (tx := "squares") dX5_kindOfToken_45 (by decide +kernel) (by decide) ?_
          refine y_callV dX5_kindOfToken_47 lk_X5_61 [.ref (1001 + 9)] rfl (c_isWord E l hR hN hr ht ha (show 9 < 21 by decide)) (g_recv.obj (ci := 5) rfl (by decide) (show 23 < N by omega)) rfl ⟨⟨by decide, by decide⟩, by decide, by decide⟩ (lb rfl) ?_
          refine w_if_eq (tgt := 57) dX5_kindOfToken_50 (by decide) (fun c_50 => ?_) (fun c_50 => ?_)
          · refine w_iconst (v := (-1)) dX5_kindOfToken_57 (by decide) ?_
            refine w_iret dX5_kindOfToken_58 rfl rfl (by first | exact ⟨rt_i (by unfold kdS; rw [b2i_0.mp c_6, if_neg (by decide), b2i_0.mp c_17, if_neg (by decide), b2i_0.mp c_28, if_neg (by decide), b2i_0.mp c_39, if_neg (by decide), if_pos (b2i_ne.mp c_50)]), rfl⟩ | exact ⟨rt_i (by unfold kdS; rw [b2i_0.mp c_6, if_neg (by decide), b2i_0.mp c_17, if_neg (by decide), b2i_0.mp c_28, if_neg (by decide), b2i_0.mp c_39, if_neg (by decide), b2i_0.mp c_50, if_neg (by decide)]), rfl⟩) (by decide) (by decide)
          · refine w_iconst (v := 4) dX5_kindOfToken_53 (by decide) ?_
            refine w_goto (tgt := 58) dX5_kindOfToken_54 (by decide) ?_
            refine w_iret dX5_kindOfToken_58 rfl rfl (by first | exact ⟨rt_i (by unfold kdS; rw [b2i_0.mp c_6, if_neg (by decide), b2i_0.mp c_17, if_neg (by decide), b2i_0.mp c_28, if_neg (by decide), b2i_0.mp c_39, if_neg (by decide), if_pos (b2i_ne.mp c_50)]), rfl⟩ | exact ⟨rt_i (by unfold kdS; rw [b2i_0.mp c_6, if_neg (by decide), b2i_0.mp c_17, if_neg (by decide), b2i_0.mp c_28, if_neg (by decide), b2i_0.mp c_39, if_neg (by decide), b2i_0.mp c_50, if_neg (by decide)]), rfl⟩) (by decide) (by decide)
        · refine w_iconst (v := 3) dX5_kindOfToken_42 (by decide) ?_
          refine w_iret dX5_kindOfToken_43 rfl rfl ⟨rt_i (by unfold kdS; rw [b2i_0.mp c_6, if_neg (by decide), b2i_0.mp c_17, if_neg (by decide), b2i_0.mp c_28, if_neg (by decide), if_pos (b2i_ne.mp c_39)]), rfl⟩ (by decide) (by decide)
      · refine w_iconst (v := 2) dX5_kindOfToken_31 (by decide) ?_
        refine w_iret dX5_kindOfToken_32 rfl rfl ⟨rt_i (by unfold kdS; rw [b2i_0.mp c_6, if_neg (by decide), b2i_0.mp c_17, if_neg (by decide), if_pos (b2i_ne.mp c_28)]), rfl⟩ (by decide) (by decide)
    · refine w_iconst (v := 1) dX5_kindOfToken_20 (by decide) ?_
      refine w_iret dX5_kindOfToken_21 rfl rfl ⟨rt_i (by unfold kdS; rw [b2i_0.mp c_6, if_neg (by decide), if_pos (b2i_ne.mp c_17)]), rfl⟩ (by decide) (by decide)
  · refine w_iconst (v := 0) dX5_kindOfToken_9 (by decide) ?_
    refine w_iret dX5_kindOfToken_10 rfl rfl ⟨rt_i (by unfold kdS; rw [if_pos (b2i_ne.mp c_6)]), rfl⟩ (by decide) (by decide)
end WD
