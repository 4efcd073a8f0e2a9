/-! HeapGames$TextReader: what a token is -/
theorem runE_k {tx : Nat → Nat} {L k : Nat} : ∀ f i j, i ≤ j → j < runE tx L k f i → kb tx L j = k
  | 0, i, j, h1, h2 => by rw [runE] at h2; omega
  | f + 1, i, j, h1, h2 => by
    rw [runE] at h2
    split at h2
    · rcases Nat.lt_or_ge i j with z | z
      · exact runE_k f (i + 1) j z h2
      · obtain rfl : i = j := by omega
        assumption
    · omega
theorem tk_k {tx : Nat → Nat} {L a j : Nat} (hk : tkK tx L a = 1 ∨ tkK tx L a = 2) (h1 : tkS tx L a ≤ j) (h2 : j < tkE tx L a) : kb tx L j = tkK tx L a := by
  unfold tkE at h2
  rw [if_neg (by omega), if_pos hk] at h2
  rcases Nat.lt_or_ge (tkS tx L a) j with z | z
  · exact runE_k _ _ j z h2
  · obtain rfl : j = tkS tx L a := by omega
    rfl
theorem kb_1 {tx : Nat → Nat} {L i : Nat} (h : kb tx L i = 1) : i < L ∧ 97 ≤ tx i ∧ tx i ≤ 122 := by
  unfold kb at h
  split at h
  · split at h
    · exact ⟨by assumption, by omega, by omega⟩
    · split at h
      · cases h
      · split at h <;> cases h
  · cases h
theorem kb_2 {tx : Nat → Nat} {L i : Nat} (h : kb tx L i = 2) : i < L ∧ 48 ≤ tx i ∧ tx i ≤ 57 := by
  unfold kb at h
  split at h
  · split at h
    · cases h
    · split at h
      · exact ⟨by assumption, by omega, by omega⟩
      · split at h <;> cases h
  · cases h
def nmF (tx : Nat → Nat) (s : Nat) : Nat → Nat
  | 0 => 0
  | j + 1 => 10 * nmF tx s j + (tx (s + j) - 48)
def naF (tx : Nat → Nat) (s : Nat) : Nat → Nat
  | 0 => 0
  | j + 1 => naF tx s j * 256 + tx (s + j)
def tkN (tx : Nat → Nat) (L a : Nat) : Nat := tkE tx L a - tkS tx L a
def isNm (tx : Nat → Nat) (L a : Nat) : Bool := decide (tkK tx L a = 1 ∧ tkN tx L a ≤ 8)
def isNu (tx : Nat → Nat) (L a : Nat) : Bool := decide (tkK tx L a = 2 ∧ tkN tx L a ≤ 2)
theorem naF_lt {tx : Nat → Nat} {s : Nat} : ∀ n, (∀ j, j < n → tx (s + j) < 128) → naF tx s n < 256 ^ n
  | 0, _ => by show 0 < 1; omega
  | n + 1, h => by
    rw [naF, Nat.pow_succ]
    have := naF_lt (tx := tx) (s := s) n (fun j hj => h j (by omega))
    have := h n (by omega)
    omega
theorem sx_l : ∀ x, x < 128 → (sx x).toInt64 = lN x := by decide +kernel
section TL
variable (E : GE) (l : Launch)
variable {I : Nat → Nat → Int32} {J : Nat → Nat → Int64} {R : Nat → Nat → Option Nat} {D : Nat → Nat → UInt64} {N : Nat} {ex : Bool} {tx : Nat → Nat} {L a : Nat}
set_option maxRecDepth 100000 in
theorem c_tokenLength (hN : 24 < N) (ht : tkC I tx L a) (ha : a ≤ L) (hL : L ≤ 400) : g_Ct E l mX5_tokenLength 0 0 0 0 [.ref 23] (I, J, R, D, N, ex) (g_is (some (.int (nI (tkN tx L a)))) (I, J, R, D, N, ex)) := by
  refine g_Ct.of (by decide +kernel) (lb rfl) ?_
  have hb := tk_b (tx := tx) ha
  refine w_aload_n dX5_tokenLength_0 rfl ?_
  refine x_geti (ci := 5) (k := 4) dX5_tokenLength_1 rfl (by decide) (by decide) (by omega) fl_X5_35 rfl ?_
  rw [ht.2.1]
  refine w_aload_n dX5_tokenLength_4 rfl ?_
  refine x_geti (ci := 5) (k := 3) dX5_tokenLength_5 rfl (by decide) (by decide) (by omega) fl_X5_143 rfl ?_
  rw [ht.1]
  refine w_isub dX5_tokenLength_8 ?_
  rw [pk_sub (by omega)]
  refine w_iret dX5_tokenLength_9 rfl rfl ⟨rfl, rfl⟩ (by decide) (by decide)
set_option maxRecDepth 100000 in
theorem c_isName (hN : 24 < N) (ht : tkC I tx L a) (ha : a ≤ L) (hL : L ≤ 400) : g_Ct E l mX5_isName 1 20 0 0 [.ref 23] (I, J, R, D, N, ex) (g_is (some (.int (b2i (isNm tx L a)))) (I, J, R, D, N, ex)) := by
  refine g_Ct.of (by decide +kernel) (lb rfl) ?_
  have hb := tk_b (tx := tx) ha
  have hk : tkK tx L a ≤ 4 := kb_le _ _ _
  have hn : tkN tx L a ≤ 400 := by unfold tkN; omega
  refine w_aload_n dX5_isName_0 rfl ?_
  refine x_geti (ci := 5) (k := 5) dX5_isName_1 rfl (by decide) (by decide) (by omega) fl_X5_48 rfl ?_
  rw [ht.2.2]
  refine w_iconst (v := 1) dX5_isName_4 (by decide) ?_
  refine w_icmp_ne (tgt := 21) dX5_isName_5 (by decide) (fun c_5 => ?_) (fun c_5 => ?_)
  · refine w_iconst (v := 0) dX5_isName_21 (by decide) ?_
    refine w_iret dX5_isName_22 rfl (by rfl) (by first | exact ⟨rt_t (decide_eq_true ⟨n_eq (b := 1) c_5, n_nlt (a := 8) c_14⟩), rfl⟩ | exact ⟨rt_f (decide_eq_false (fun q => absurd q.2 (by have := n_lt (a := 8) c_14; omega))), rfl⟩ | exact ⟨rt_f (decide_eq_false (fun q => c_5 (by rw [q.1]; rfl))), rfl⟩) (by decide) (by decide)
  · refine w_aload_n dX5_isName_8 rfl ?_
    refine y_callV dX5_isName_9 lk_X5_156 [] rfl (c_tokenLength E l hN ht ha hL) (g_recv.obj (ci := 5) rfl (by decide) (show 23 < N by omega)) rfl ⟨⟨by decide, by decide⟩, by decide, by decide⟩ (lb rfl) ?_
    refine w_bipush (v := 8) dX5_isName_12 (by decide) ?_
    refine w_icmp_gt (tgt := 21) dX5_isName_14 (by decide) (fun c_14 => ?_) (fun c_14 => ?_)
    · refine w_iconst (v := 0) dX5_isName_21 (by decide) ?_
      refine w_iret dX5_isName_22 rfl (by rfl) (by first | exact ⟨rt_t (decide_eq_true ⟨n_eq (b := 1) c_5, n_nlt (a := 8) c_14⟩), rfl⟩ | exact ⟨rt_f (decide_eq_false (fun q => absurd q.2 (by have := n_lt (a := 8) c_14; omega))), rfl⟩ | exact ⟨rt_f (decide_eq_false (fun q => c_5 (by rw [q.1]; rfl))), rfl⟩) (by decide) (by decide)
    · refine w_iconst (v := 1) dX5_isName_17 (by decide) ?_
      refine w_goto (tgt := 22) dX5_isName_18 (by decide) ?_
      refine w_iret dX5_isName_22 rfl (by rfl) (by first | exact ⟨rt_t (decide_eq_true ⟨n_eq (b := 1) c_5, n_nlt (a := 8) c_14⟩), rfl⟩ | exact ⟨rt_f (decide_eq_false (fun q => absurd q.2 (by have := n_lt (a := 8) c_14; omega))), rfl⟩ | exact ⟨rt_f (decide_eq_false (fun q => c_5 (by rw [q.1]; rfl))), rfl⟩) (by decide) (by decide)
set_option maxRecDepth 100000 in
theorem c_isNumber (hN : 24 < N) (ht : tkC I tx L a) (ha : a ≤ L) (hL : L ≤ 400) : g_Ct E l mX5_isNumber 1 20 0 0 [.ref 23] (I, J, R, D, N, ex) (g_is (some (.int (b2i (isNu tx L a)))) (I, J, R, D, N, ex)) := by
  refine g_Ct.of (by decide +kernel) (lb rfl) ?_
  have hb := tk_b (tx := tx) ha
  have hk : tkK tx L a ≤ 4 := kb_le _ _ _
  have hn : tkN tx L a ≤ 400 := by unfold tkN; omega
  refine w_aload_n dX5_isNumber_0 rfl ?_
  refine x_geti (ci := 5) (k := 5) dX5_isNumber_1 rfl (by decide) (by decide) (by omega) fl_X5_48 rfl ?_
  rw [ht.2.2]
  refine w_iconst (v := 2) dX5_isNumber_4 (by decide) ?_
  refine w_icmp_ne (tgt := 20) dX5_isNumber_5 (by decide) (fun c_5 => ?_) (fun c_5 => ?_)
  · refine w_iconst (v := 0) dX5_isNumber_20 (by decide) ?_
    refine w_iret dX5_isNumber_21 rfl (by rfl) (by first | exact ⟨rt_t (decide_eq_true ⟨n_eq (b := 2) c_5, n_nlt (a := 2) c_13⟩), rfl⟩ | exact ⟨rt_f (decide_eq_false (fun q => absurd q.2 (by have := n_lt (a := 2) c_13; omega))), rfl⟩ | exact ⟨rt_f (decide_eq_false (fun q => c_5 (by rw [q.1]; rfl))), rfl⟩) (by decide) (by decide)
  · refine w_aload_n dX5_isNumber_8 rfl ?_
    refine y_callV dX5_isNumber_9 lk_X5_156 [] rfl (c_tokenLength E l hN ht ha hL) (g_recv.obj (ci := 5) rfl (by decide) (show 23 < N by omega)) rfl ⟨⟨by decide, by decide⟩, by decide, by decide⟩ (lb rfl) ?_
    refine w_iconst (v := 2) dX5_isNumber_12 (by decide) ?_
    refine w_icmp_gt (tgt := 20) dX5_isNumber_13 (by decide) (fun c_13 => ?_) (fun c_13 => ?_)
    · refine w_iconst (v := 0) dX5_isNumber_20 (by decide) ?_
      refine w_iret dX5_isNumber_21 rfl (by rfl) (by first | exact ⟨rt_t (decide_eq_true ⟨n_eq (b := 2) c_5, n_nlt (a := 2) c_13⟩), rfl⟩ | exact ⟨rt_f (decide_eq_false (fun q => absurd q.2 (by have := n_lt (a := 2) c_13; omega))), rfl⟩ | exact ⟨rt_f (decide_eq_false (fun q => c_5 (by rw [q.1]; rfl))), rfl⟩) (by decide) (by decide)
    · refine w_iconst (v := 1) dX5_isNumber_16 (by decide) ?_
      refine w_goto (tgt := 21) dX5_isNumber_17 (by decide) ?_
      refine w_iret dX5_isNumber_21 rfl (by rfl) (by first | exact ⟨rt_t (decide_eq_true ⟨n_eq (b := 2) c_5, n_nlt (a := 2) c_13⟩), rfl⟩ | exact ⟨rt_f (decide_eq_false (fun q => absurd q.2 (by have := n_lt (a := 2) c_13; omega))), rfl⟩ | exact ⟨rt_f (decide_eq_false (fun q => c_5 (by rw [q.1]; rfl))), rfl⟩) (by decide) (by decide)
set_option maxRecDepth 100000 in
theorem c_numberOfToken (hR : R 23 0 = some 24) (hN : 24 < N) (hr : rdC I tx L) (ht : tkC I tx L a) (ha : a ≤ L) (hu : isNu tx L a = true) : g_Ct E l mX5_numberOfToken 1 21 0 0 [.ref 23] (I, J, R, D, N, ex) (g_is (some (.int (nI (nmF tx (tkS tx L a) (tkN tx L a))))) (I, J, R, D, N, ex)) := by
  refine g_Ct.of (by decide +kernel) (lb rfl) ?_
  have hL := hr.2.1
  have hb := tk_b (tx := tx) ha
  have hu2 := of_decide_eq_true hu
  have hE : tkE tx L a = tkS tx L a + tkN tx L a := by unfold tkN; omega
  have hdg : ∀ j, j < tkN tx L a → tkS tx L a + j < L ∧ 48 ≤ tx (tkS tx L a + j) ∧ tx (tkS tx L a + j) ≤ 57 := fun j hj => kb_2 ((tk_k (Or.inr hu2.1) (Nat.le_add_right _ _) (by omega)).trans hu2.1)
  have hlt : ∀ j, j ≤ tkN tx L a → nmF tx (tkS tx L a) j < 10 ^ j := by
    intro j
    induction j with
    | zero => intro _; show 0 < 1; omega
    | succ j ih =>
      intro hj
      rw [nmF, Nat.pow_succ]
      have := ih (by omega)
      have := hdg j (by omega)
      omega
  have loop : ∀ f j : Nat, j + f = tkN tx L a → g_Wp E l mX5_numberOfToken { frames := 1, cells := 0, slots := 0, locals := 21 } (g_Fin E (g_is (some (.int (nI (nmF tx (tkS tx L a) (tkN tx L a))))) (I, J, R, D, N, ex)) 0 0) 0 0 7 [(2, .int (nI (tkS tx L a + j))), (1, .int (nI (nmF tx (tkS tx L a) j))), (0, .ref 23)] [] (I, J, R, D, N, ex) := by
    intro f
    induction f with
    | zero =>
      intro j hj
      obtain rfl : j = tkN tx L a := by omega
      refine w_iload_n dX5_numberOfToken_7 rfl ?_
      refine w_aload_n dX5_numberOfToken_8 rfl ?_
      refine x_geti (ci := 5) (k := 4) dX5_numberOfToken_9 rfl (by decide) (by decide) (by omega) fl_X5_35 rfl ?_
      rw [ht.2.1]
      refine w_icmp_ge (tgt := 35) dX5_numberOfToken_12 (by decide) (fun c_12 => ?_) (fun c_12 => absurd ((nI_le (by omega) (by omega))) c_12)
      refine w_iload_n dX5_numberOfToken_35 rfl ?_
      refine w_iret dX5_numberOfToken_36 rfl rfl ⟨rfl, rfl⟩ (by decide) (by decide)
    | succ f ih =>
      intro j hj
      have hd := hdg j (by omega)
      have hl := hlt j (by omega)
      have hp : (10 : Nat) ^ j ≤ 10 ^ 2 := Nat.pow_le_pow_right (by decide) (by omega)
      have e : (10 : Int32) * nI (nmF tx (tkS tx L a) j) + sx (tx (tkS tx L a + j)) - 48 = nI (nmF tx (tkS tx L a) (j + 1)) := by
        rw [sx_lo _ (by omega), show (10 : Int32) = nI 10 from rfl, pk_mul, nI_add, show (48 : Int32) = nI 48 from rfl, pk_sub (by omega), nmF]
        congr 1
        omega
      refine w_iload_n dX5_numberOfToken_7 rfl ?_
      refine w_aload_n dX5_numberOfToken_8 rfl ?_
      refine x_geti (ci := 5) (k := 4) dX5_numberOfToken_9 rfl (by decide) (by decide) (by omega) fl_X5_35 rfl ?_
      rw [ht.2.1]
      refine w_icmp_ge (tgt := 35) dX5_numberOfToken_12 (by decide) (fun c_12 => absurd c_12 ((nI_ge (by omega) (by omega)))) (fun c_12 => ?_)
      refine w_bipush (v := 10) dX5_numberOfToken_15 (by decide) ?_
      refine w_iload_n dX5_numberOfToken_17 rfl ?_
      refine w_imul dX5_numberOfToken_18 ?_
      refine w_aload_n dX5_numberOfToken_19 rfl ?_
      refine w_iload_n dX5_numberOfToken_20 rfl ?_
      refine y_callV dX5_numberOfToken_21 lk_X5_149 [.int (nI (tkS tx L a + j))] rfl (c_byteAt E l hR hN hr hd.1) (g_recv.obj (ci := 5) rfl (by decide) (show 23 < N by omega)) rfl ⟨⟨by decide, by decide⟩, by decide, by decide⟩ (lb rfl) ?_
      refine w_iadd dX5_numberOfToken_24 ?_
      refine w_bipush (v := 48) dX5_numberOfToken_25 (by decide) ?_
      refine w_isub dX5_numberOfToken_27 ?_
      rw [e]
      refine w_istore_n dX5_numberOfToken_28 (by decide) rfl ?_
      refine w_iinc (v := nI (tkS tx L a + (j + 1))) dX5_numberOfToken_29 rfl (nI_inc _) (by decide) rfl ?_
      refine w_goto (tgt := 7) dX5_numberOfToken_32 (by decide) ?_
      exact w_lv [2, 1, 0] (ih (j + 1) (by omega))
  refine w_iconst (v := 0) dX5_numberOfToken_0 (by decide) ?_
  refine w_istore_n dX5_numberOfToken_1 (by decide) rfl ?_
  refine w_aload_n dX5_numberOfToken_2 rfl ?_
  refine x_geti (ci := 5) (k := 3) dX5_numberOfToken_3 rfl (by decide) (by decide) (by omega) fl_X5_143 rfl ?_
  rw [ht.1]
  refine w_istore_n dX5_numberOfToken_6 (by decide) rfl ?_
  exact w_lv [2, 1, 0] (loop (tkN tx L a) 0 (by omega))
set_option maxRecDepth 100000 in
theorem c_nameOfToken (hR : R 23 0 = some 24) (hN : 24 < N) (hr : rdC I tx L) (ht : tkC I tx L a) (ha : a ≤ L) (hu : isNm tx L a = true) : g_Ct E l mX5_nameOfToken 1 21 0 0 [.ref 23] (I, J, R, D, N, ex) (g_is (some (.long (lN (naF tx (tkS tx L a) (tkN tx L a))))) (I, J, R, D, N, ex)) := by
  refine g_Ct.of (by decide +kernel) (lb rfl) ?_
  have hL := hr.2.1
  have hb := tk_b (tx := tx) ha
  have hu2 := of_decide_eq_true hu
  have hE : tkE tx L a = tkS tx L a + tkN tx L a := by unfold tkN; omega
  have hdg : ∀ j, j < tkN tx L a → tkS tx L a + j < L ∧ 97 ≤ tx (tkS tx L a + j) ∧ tx (tkS tx L a + j) ≤ 122 := fun j hj => kb_1 ((tk_k (Or.inl hu2.1) (Nat.le_add_right _ _) (by omega)).trans hu2.1)
  have loop : ∀ f j : Nat, j + f = tkN tx L a → g_Wp E l mX5_nameOfToken { frames := 1, cells := 0, slots := 0, locals := 21 } (g_Fin E (g_is (some (.long (lN (naF tx (tkS tx L a) (tkN tx L a))))) (I, J, R, D, N, ex)) 0 0) 0 0 7 [(3, .int (nI (tkS tx L a + j))), (1, .long (lN (naF tx (tkS tx L a) j))), (0, .ref 23)] [] (I, J, R, D, N, ex) := by
    intro f
    induction f with
    | zero =>
      intro j hj
      obtain rfl : j = tkN tx L a := by omega
      refine w_iload_n dX5_nameOfToken_7 rfl ?_
      refine w_aload_n dX5_nameOfToken_8 rfl ?_
      refine x_geti (ci := 5) (k := 4) dX5_nameOfToken_9 rfl (by decide) (by decide) (by omega) fl_X5_35 rfl ?_
      rw [ht.2.1]
      refine w_icmp_ge (tgt := 33) dX5_nameOfToken_12 (by decide) (fun c_12 => ?_) (fun c_12 => absurd ((nI_le (by omega) (by omega))) c_12)
      refine w_lload_n dX5_nameOfToken_33 rfl ?_
      refine w_lret dX5_nameOfToken_34 rfl ⟨rfl, rfl⟩ (by decide) (by decide)
    | succ f ih =>
      intro j hj
      have hd := hdg j (by omega)
      have hl := naF_lt (tx := tx) (s := tkS tx L a) j (fun i hi => by have := hdg i (by omega); omega)
      have hp : (256 : Nat) ^ j ≤ 256 ^ 7 := Nat.pow_le_pow_right (by decide) (by omega)
      have e : lN (naF tx (tkS tx L a) j) <<< ((8 : Int32).toInt64 &&& 63) ||| (sx (tx (tkS tx L a + j))).toInt64 = lN (naF tx (tkS tx L a) (j + 1)) := by
        rw [sx_l _ (by omega), show (8 : Int32) = nI 8 from rfl, wb_shl _ (by omega), g_or (k := 8) (p := 2 ^ 8) rfl (by omega) (by omega), naF]
      refine w_iload_n dX5_nameOfToken_7 rfl ?_
      refine w_aload_n dX5_nameOfToken_8 rfl ?_
      refine x_geti (ci := 5) (k := 4) dX5_nameOfToken_9 rfl (by decide) (by decide) (by omega) fl_X5_35 rfl ?_
      rw [ht.2.1]
      refine w_icmp_ge (tgt := 33) dX5_nameOfToken_12 (by decide) (fun c_12 => absurd c_12 ((nI_ge (by omega) (by omega)))) (fun c_12 => ?_)
      refine w_lload_n dX5_nameOfToken_15 rfl ?_
      refine w_bipush (v := 8) dX5_nameOfToken_16 (by decide) ?_
      refine w_lshl dX5_nameOfToken_18 ?_
      refine w_aload_n dX5_nameOfToken_19 rfl ?_
      refine w_iload_n dX5_nameOfToken_20 rfl ?_
      refine y_callV dX5_nameOfToken_21 lk_X5_149 [.int (nI (tkS tx L a + j))] rfl (c_byteAt E l hR hN hr hd.1) (g_recv.obj (ci := 5) rfl (by decide) (show 23 < N by omega)) rfl ⟨⟨by decide, by decide⟩, by decide, by decide⟩ (lb rfl) ?_
      refine w_i2l dX5_nameOfToken_24 ?_
      refine w_lor dX5_nameOfToken_25 ?_
      rw [e]
      refine w_lstore_n dX5_nameOfToken_26 (by decide) rfl ?_
      refine w_iinc (v := nI (tkS tx L a + (j + 1))) dX5_nameOfToken_27 rfl (nI_inc _) (by decide) rfl ?_
      refine w_goto (tgt := 7) dX5_nameOfToken_30 (by decide) ?_
      exact w_lv [3, 1, 0] (ih (j + 1) (by omega))
  refine w_lconst (v := 0) dX5_nameOfToken_0 (by decide) ?_
  refine w_lstore_n dX5_nameOfToken_1 (by decide) rfl ?_
  refine w_aload_n dX5_nameOfToken_2 rfl ?_
  refine x_geti (ci := 5) (k := 3) dX5_nameOfToken_3 rfl (by decide) (by decide) (by omega) fl_X5_143 rfl ?_
  rw [ht.1]
  refine w_istore_n dX5_nameOfToken_6 (by decide) rfl ?_
  exact w_lv [3, 1, 0] (loop (tkN tx L a) 0 (by omega))
def flS (s k : Nat) : Int32 := -2 - nI (8 * s + k)
set_option maxRecDepth 100000 in
theorem c_fail (hN : 24 < N) (ht : tkC I tx L a) (k : Nat) : g_Ct E l mX5_fail 0 0 0 0 [.ref 23, .int (nI k)] (I, J, R, D, N, ex) (g_is (some (.int (b2i false))) (up2 I 23 9 (flS (tkS tx L a) k), J, R, D, N, ex)) := by
  refine g_Ct.of (by decide +kernel) (lb rfl) ?_
  refine w_aload_n dX5_fail_0 rfl ?_
  refine w_bipush (v := (-2)) dX5_fail_1 (by decide) ?_
  refine w_bipush (v := 8) dX5_fail_3 (by decide) ?_
  refine w_aload_n dX5_fail_5 rfl ?_
  refine x_geti (ci := 5) (k := 3) dX5_fail_6 rfl (by decide) (by decide) (by omega) fl_X5_143 rfl ?_
  rw [ht.1]
  refine w_imul dX5_fail_9 ?_
  refine w_iload_n dX5_fail_10 rfl ?_
  refine w_iadd dX5_fail_11 ?_
  refine w_st (show _ = [.int (nI (8 * tkS tx L a + k)), .int (-2), .ref 23] from by rw [← nI_add, ← pk_mul]; rfl) ?_
  refine w_isub dX5_fail_12 ?_
  refine x_puti (ci := 5) (k := 9) dX5_fail_13 rfl (by decide) (by decide) (by omega) fl_X5_146 rfl rfl ?_
  refine w_iconst (v := 0) dX5_fail_16 (by decide) ?_
  refine w_iret dX5_fail_17 rfl (by rfl) ⟨rfl, rfl⟩ (by decide) (by decide)
end TL
