/-! HeapGamesModel: asking rules and heaps, on -/
theorem amt_ge_grS (S : Nat → Bool) : ∀ n a, 1 ≤ a → a ≤ n → S a = true → a ≤ grS S n
  | 0, a, h1, h2, _ => by omega
  | n + 1, a, h1, h2, h3 => by
    unfold grS
    split
    · omega
    · rename_i hs
      rcases Nat.lt_or_ge n a with z | z
      · obtain rfl : a = n + 1 := by omega
        exact absurd h3 hs
      · exact amt_ge_grS S n a h1 z h3
theorem grS_mem (S : Nat → Bool) : ∀ n, grS S n = 0 ∨ (1 ≤ grS S n ∧ grS S n ≤ n ∧ S (grS S n) = true)
  | 0 => Or.inl rfl
  | n + 1 => by
    unfold grS
    split
    · rename_i hs; exact Or.inr ⟨by omega, by omega, hs⟩
    · rcases grS_mem S n with h | h
      · exact Or.inl h
      · exact Or.inr ⟨h.1, by omega, h.2.2⟩
/-- the most of the first amounts told -/
def moA (al : List Nat) : Nat → Nat
  | 0 => 0
  | j + 1 => max (moA al j) (al.getD j 0)
theorem moA_ge (al : List Nat) : ∀ j i, i < j → al.getD i 0 ≤ moA al j
  | 0, i, h => by omega
  | j + 1, i, h => by
    rw [moA]
    rcases Nat.lt_or_ge i j with z | z
    · have := moA_ge al j i z; omega
    · obtain rfl : i = j := by omega
      omega
theorem moA_mem (al : List Nat) : ∀ j, j ≤ al.length → moA al j = 0 ∨ moA al j ∈ al
  | 0, _ => Or.inl rfl
  | j + 1, h => by
    rw [moA]
    have hj : al.getD j 0 ∈ al := by rw [List.getD_eq_getElem?_getD, List.getElem?_eq_getElem (show j < al.length by omega)]; exact List.getElem_mem _
    rcases moA_mem al j (by omega) with z | z
    · rw [z, Nat.zero_max]; exact Or.inr hj
    · rcases Nat.le_total (moA al j) (al.getD j 0) with y | y
      · rw [Nat.max_eq_right y]; exact Or.inr hj
      · rw [Nat.max_eq_left y]; exact Or.inr z
theorem moA_grS {al : List Nat} (h : ∀ a ∈ al, a ≤ 60) : moA al al.length = grS (alS al) 60 := by
  apply Nat.le_antisymm
  · rcases moA_mem al al.length (Nat.le_refl _) with z | z
    · omega
    · rcases Nat.eq_zero_or_pos (moA al al.length) with y | y
      · omega
      · exact amt_ge_grS _ 60 _ y (h _ z) (decide_eq_true z)
  · rcases grS_mem (alS al) 60 with z | ⟨z1, z2, z3⟩
    · omega
    · obtain ⟨i, hi, e⟩ := List.getElem_of_mem (of_decide_eq_true z3)
      have := moA_ge al al.length i hi
      rw [List.getD_eq_getElem?_getD, List.getElem?_eq_getElem hi] at this
      simp only [Option.getD_some] at this
      omega
section MG
variable (E : GE) (l : Launch)
variable {I : Nat → Nat → Int32} {J : Nat → Nat → Int64} {R : Nat → Nat → Option Nat} {D : Nat → Nat → UInt64} {N : Nat} {ex : Bool} {A : AS} {c : Nat}

set_option maxRecDepth 100000 in
theorem m_isProved_x1 (hR : lkM R N) (hA : aOK A) (h : rM I A c) {x : Int32} (hx : x < 0 ∨ ¬ x < nI A.nr) (z : Int32) : g_Ct E l mX7_isProved 4 94 0 0 [.ref 79, .int x, .int z] (I, J, R, D, N, ex) (g_is (some (.int 0)) (up2 (up2 I 79 17 0) 79 17 1, J, R, D, N, ex)) := by
  refine g_Ct.of (by decide +kernel) (lb rfl) ?_
  have hN := hR.1
  have h9 := h.thr 0
  have z9 : up2 I 79 17 0 79 17 = 0 := up2_s ..
  have h6 := hA.1
  refine w_aload_n dX7_isProved_0 rfl ?_
  refine w_iconst (v := 0) dX7_isProved_1 (by decide) ?_
  refine x_puti (ci := 7) (k := 17) dX7_isProved_2 rfl (by decide) (by decide) (by omega) fl_X7_73 rfl rfl ?_
  refine w_aload_n dX7_isProved_5 rfl ?_
  refine w_iload_n dX7_isProved_6 rfl ?_
  refine w_iload_n dX7_isProved_7 rfl ?_
  refine y_callV dX7_isProved_8 lk_X7_369 [.int x, .int z] rfl (m_mayUpTo_f1 E l (by omega) z9 h9.2.2.2.1.1 h6 hx z) (g_recv.obj (ci := 7) rfl (by decide) (show 79 < N by omega)) rfl ⟨⟨by decide, by decide⟩, by decide, by decide⟩ (lb rfl) ?_
  refine w_if_ne (tgt := 16) dX7_isProved_11 (by decide) (fun c_11 => absurd (rfl) c_11) (fun c_11 => ?_)
  refine w_iconst (v := 0) dX7_isProved_14 (by decide) ?_
  refine w_iret dX7_isProved_15 rfl rfl ⟨rfl, rfl⟩ (by decide) (by decide)
set_option maxRecDepth 100000 in
theorem m_isProved_x2 (hR : lkM R N) (hA : aOK A) (h : rM I A c) {k : Nat} (hk : k < A.nr) {z : Int32} (hz : z < 0 ∨ ¬ z < nI 301) : g_Ct E l mX7_isProved 4 94 0 0 [.ref 79, .int (nI k), .int z] (I, J, R, D, N, ex) (g_is (some (.int 0)) (up2 (up2 I 79 17 0) 79 17 2, J, R, D, N, ex)) := by
  refine g_Ct.of (by decide +kernel) (lb rfl) ?_
  have hN := hR.1
  have h9 := h.thr 0
  have z9 : up2 I 79 17 0 79 17 = 0 := up2_s ..
  have h6 := hA.1
  refine w_aload_n dX7_isProved_0 rfl ?_
  refine w_iconst (v := 0) dX7_isProved_1 (by decide) ?_
  refine x_puti (ci := 7) (k := 17) dX7_isProved_2 rfl (by decide) (by decide) (by omega) fl_X7_73 rfl rfl ?_
  refine w_aload_n dX7_isProved_5 rfl ?_
  refine w_iload_n dX7_isProved_6 rfl ?_
  refine w_iload_n dX7_isProved_7 rfl ?_
  refine y_callV dX7_isProved_8 lk_X7_369 [.int (nI k), .int z] rfl (m_mayUpTo_f2 E l (by omega) z9 h9.2.2.2.1.1 h6 hk hz) (g_recv.obj (ci := 7) rfl (by decide) (show 79 < N by omega)) rfl ⟨⟨by decide, by decide⟩, by decide, by decide⟩ (lb rfl) ?_
  refine w_if_ne (tgt := 16) dX7_isProved_11 (by decide) (fun c_11 => absurd (rfl) c_11) (fun c_11 => ?_)
  refine w_iconst (v := 0) dX7_isProved_14 (by decide) ?_
  refine w_iret dX7_isProved_15 rfl rfl ⟨rfl, rfl⟩ (by decide) (by decide)
set_option maxRecDepth 100000 in
theorem m_isProved (hR : lkM R N) (hA : aOK A) (h : rM I A c) {k : Nat} (hk : k < A.nr) {m : Nat} (hm : m < 301) : g_Ct E l mX7_isProved 4 94 0 0 [.ref 79, .int (nI k), .int (nI m)] (I, J, R, D, N, ex) (g_is (some (.int (b2i (prS A.ru k m)))) (up2 I 79 17 0, J, R, D, N, ex)) := by
  refine g_Ct.of (by decide +kernel) (lb rfl) ?_
  have hN := hR.1
  have h9 := h.thr 0
  have z9 : up2 I 79 17 0 79 17 = 0 := up2_s ..
  have h6 := hA.1
  obtain ⟨al, hm1, hm2⟩ := h9.2.2.2.1.2.1 k hk
  obtain ⟨q1, q2, q3, q4, q5, q6⟩ := hm1
  have est : stF (vS A.ru k) m = stS A.ru k m := (by unfold stF stS; cases perOf (vS A.ru k) m <;> rfl)
  have hmo : ∀ j, j ≤ al.length → moA al j ≤ 60 := fun j hj => by rcases moA_mem al j hj with z | z; omega; exact q6 _ z
  have hgr : grS (A.ru.2.1 k) 60 = moA al al.length := by rw [hm2]; exact (moA_grS q6).symm
  have loop : ∀ t, perOf (vS A.ru k) m = some t → A.ru.1 k = 0 → ∀ f j : Nat, j + f = al.length → g_Wp E l mX7_isProved { frames := 4, cells := 0, slots := 0, locals := 94 } (g_Fin E (g_is (some (.int (b2i (prS A.ru k m)))) (up2 I 79 17 0, J, R, D, N, ex)) 0 0) 0 0 45 [(5, .int (nI j)), (4, .int (nI (moA al j))), (3, .int (nI t)), (0, .ref 79), (1, .int (nI k)), (2, .int (nI m))] [] (up2 I 79 17 0, J, R, D, N, ex) := by
    intro t ht hk0 f
    have hts := perOf_some ht
    have hso : stOf (vS A.ru k) t m + 2 * t ≤ m + 1 := by have := perF_some ht; exact of_decide_eq_true this.2.2
    have epr : prS A.ru k m = decide (grS (A.ru.2.1 k) 60 ≤ m - t - stOf (vS A.ru k) t m + 1) := by unfold prS; rw [ht]; simp [hk0]
    have esS : stS A.ru k m = nI (stOf (vS A.ru k) t m) := by unfold stS; rw [ht]
    induction f with
    | zero =>
      intro j hj
      obtain rfl : j = al.length := by omega
      have hm9 := hmo _ (Nat.le_refl al.length)
      refine w_iload dX7_isProved_45 rfl ?_
      refine w_aload_n dX7_isProved_47 rfl ?_
      refine x_getr (ci := 7) (k := 7) (a := 86) dX7_isProved_48 rfl (by decide) (by decide) (by omega) fl_X7_29 (Or.inr ⟨_, rfl⟩) hR.2.2.2.2.2.2.2.1 ?_
      refine w_iload_n dX7_isProved_51 rfl ?_
      refine x_iald (j := k) dX7_isProved_52 rfl (by omega) rfl (show k < 6 by omega) ?_
      rw [q3]
      refine w_icmp_ge (tgt := 98) dX7_isProved_53 (by decide) (fun c_53 => ?_) (fun c_53 => absurd ((nI_le (by omega) (by omega))) c_53)
      refine w_iload_n dX7_isProved_98 rfl ?_
      refine w_iload_n dX7_isProved_99 rfl ?_
      refine w_isub dX7_isProved_100 ?_
      rw [pk_sub (by omega)]
      refine w_aload_n dX7_isProved_101 rfl ?_
      refine w_iload_n dX7_isProved_102 rfl ?_
      refine w_iload_n dX7_isProved_103 rfl ?_
      refine y_callV dX7_isProved_104 lk_X7_375 [.int (nI k), .int (nI m)] rfl (m_startOf E l hR (show k < 6 by omega) (fun i hi => h9.2.2.2.2.1.1 k hk i hi) hm) (g_recv.obj (ci := 7) rfl (by decide) (show 79 < N by omega)) rfl ⟨⟨by decide, by decide⟩, by decide, by decide⟩ (lb rfl) ?_
      rw [est, esS]
      refine w_isub dX7_isProved_107 ?_
      rw [pk_sub (by omega)]
      refine w_iconst (v := 1) dX7_isProved_108 (by decide) ?_
      refine w_iadd dX7_isProved_109 ?_
      rw [nI_1]
      refine w_iload dX7_isProved_110 rfl ?_
      refine w_icmp_lt (tgt := 119) dX7_isProved_112 (by decide) (fun c_112 => ?_) (fun c_112 => ?_)
      · refine w_iconst (v := 0) dX7_isProved_119 (by decide) ?_
        refine w_iret dX7_isProved_120 rfl rfl (by first | exact ⟨rt_f (by rw [epr, hgr]; exact decide_eq_false (fun q => by have := n_lt (b := moA al al.length) c_112; omega)), rfl⟩ | exact ⟨rt_t (by rw [epr, hgr]; exact decide_eq_true (n_nlt (b := moA al al.length) c_112)), rfl⟩) (by decide) (by decide)
      · refine w_iconst (v := 1) dX7_isProved_115 (by decide) ?_
        refine w_goto (tgt := 120) dX7_isProved_116 (by decide) ?_
        refine w_iret dX7_isProved_120 rfl rfl (by first | exact ⟨rt_f (by rw [epr, hgr]; exact decide_eq_false (fun q => by have := n_lt (b := moA al al.length) c_112; omega)), rfl⟩ | exact ⟨rt_t (by rw [epr, hgr]; exact decide_eq_true (n_nlt (b := moA al al.length) c_112)), rfl⟩) (by decide) (by decide)
    | succ f ih =>
      intro j hj
      have hjl : j < al.length := by omega
      have h60 := q6 _ (List.getElem_mem hjl)
      have hm9 := hmo j (by omega)
      have t9 := ih (j + 1) (by omega)
      have e : al.getD j 0 = al[j] := by rw [List.getD_eq_getElem?_getD, List.getElem?_eq_getElem hjl]; rfl
      rw [moA, e] at t9
      refine w_iload dX7_isProved_45 rfl ?_
      refine w_aload_n dX7_isProved_47 rfl ?_
      refine x_getr (ci := 7) (k := 7) (a := 86) dX7_isProved_48 rfl (by decide) (by decide) (by omega) fl_X7_29 (Or.inr ⟨_, rfl⟩) hR.2.2.2.2.2.2.2.1 ?_
      refine w_iload_n dX7_isProved_51 rfl ?_
      refine x_iald (j := k) dX7_isProved_52 rfl (by omega) rfl (show k < 6 by omega) ?_
      rw [q3]
      refine w_icmp_ge (tgt := 98) dX7_isProved_53 (by decide) (fun c_53 => absurd c_53 ((nI_ge (by omega) (by omega)))) (fun c_53 => ?_)
      refine w_aload_n dX7_isProved_56 rfl ?_
      refine x_getr (ci := 7) (k := 8) (a := 87) dX7_isProved_57 rfl (by decide) (by decide) (by omega) fl_X7_32 (Or.inr ⟨_, rfl⟩) hR.2.2.2.2.2.2.2.2.1 ?_
      refine w_bipush (v := 8) dX7_isProved_60 (by decide) ?_
      refine w_iload_n dX7_isProved_62 rfl ?_
      refine w_imul dX7_isProved_63 ?_
      refine w_st (show _ = [.int (nI (8 * k)), .ref 87] from by rw [← pk_mul]; rfl) ?_
      refine w_iload dX7_isProved_64 rfl ?_
      refine w_iadd dX7_isProved_66 ?_
      rw [nI_add]
      refine x_iald (j := 8 * k + j) dX7_isProved_67 rfl (by omega) rfl (show 8 * k + j < 48 by omega) ?_
      rw [q5 j hjl]
      refine w_iload dX7_isProved_68 rfl ?_
      refine w_icmp_le (tgt := 88) dX7_isProved_70 (by decide) (fun c_70 => ?_) (fun c_70 => ?_)
      · refine w_iload dX7_isProved_88 rfl ?_
        refine w_istore dX7_isProved_90 (by decide) rfl ?_
        refine w_iinc (v := nI (j + 1)) dX7_isProved_92 rfl (nI_inc _) (by decide) rfl ?_
        refine w_goto (tgt := 45) dX7_isProved_95 (by decide) ?_
        first | (rw [Nat.max_eq_left (n_le (a := al[j]) c_70)] at t9; exact w_lv [5, 4, 3, 0, 1, 2] t9) | (rw [Nat.max_eq_right (Nat.le_of_lt (n_nle (a := al[j]) c_70))] at t9; exact w_lv [5, 4, 3, 0, 1, 2] t9)
      · refine w_aload_n dX7_isProved_73 rfl ?_
        refine x_getr (ci := 7) (k := 8) (a := 87) dX7_isProved_74 rfl (by decide) (by decide) (by omega) fl_X7_32 (Or.inr ⟨_, rfl⟩) hR.2.2.2.2.2.2.2.2.1 ?_
        refine w_bipush (v := 8) dX7_isProved_77 (by decide) ?_
        refine w_iload_n dX7_isProved_79 rfl ?_
        refine w_imul dX7_isProved_80 ?_
        refine w_st (show _ = [.int (nI (8 * k)), .ref 87] from by rw [← pk_mul]; rfl) ?_
        refine w_iload dX7_isProved_81 rfl ?_
        refine w_iadd dX7_isProved_83 ?_
        rw [nI_add]
        refine x_iald (j := 8 * k + j) dX7_isProved_84 rfl (by omega) rfl (show 8 * k + j < 48 by omega) ?_
        rw [q5 j hjl]
        refine w_goto (tgt := 90) dX7_isProved_85 (by decide) ?_
        refine w_istore dX7_isProved_90 (by decide) rfl ?_
        refine w_iinc (v := nI (j + 1)) dX7_isProved_92 rfl (nI_inc _) (by decide) rfl ?_
        refine w_goto (tgt := 45) dX7_isProved_95 (by decide) ?_
        first | (rw [Nat.max_eq_left (n_le (a := al[j]) c_70)] at t9; exact w_lv [5, 4, 3, 0, 1, 2] t9) | (rw [Nat.max_eq_right (Nat.le_of_lt (n_nle (a := al[j]) c_70))] at t9; exact w_lv [5, 4, 3, 0, 1, 2] t9)
  refine w_aload_n dX7_isProved_0 rfl ?_
  refine w_iconst (v := 0) dX7_isProved_1 (by decide) ?_
  refine x_puti (ci := 7) (k := 17) dX7_isProved_2 rfl (by decide) (by decide) (by omega) fl_X7_73 rfl rfl ?_
  refine w_aload_n dX7_isProved_5 rfl ?_
  refine w_iload_n dX7_isProved_6 rfl ?_
  refine w_iload_n dX7_isProved_7 rfl ?_
  refine y_callV dX7_isProved_8 lk_X7_369 [.int (nI k), .int (nI m)] rfl (m_mayUpTo_t E l (by omega) z9 h9.2.2.2.1.1 h6 hk hm) (g_recv.obj (ci := 7) rfl (by decide) (show 79 < N by omega)) rfl ⟨⟨by decide, by decide⟩, by decide, by decide⟩ (lb rfl) ?_
  refine w_if_ne (tgt := 16) dX7_isProved_11 (by decide) (fun c_11 => ?_) (fun c_11 => absurd c_11 ((by decide)))
  refine w_aload_n dX7_isProved_16 rfl ?_
  refine w_iload_n dX7_isProved_17 rfl ?_
  refine w_iload_n dX7_isProved_18 rfl ?_
  refine y_callV dX7_isProved_19 lk_X7_113 [.int (nI k), .int (nI m)] rfl (m_periodOf E l hR (show k < 6 by omega) (fun i hi => h9.2.2.2.2.1.1 k hk i hi) hm) (g_recv.obj (ci := 7) rfl (by decide) (show 79 < N by omega)) rfl ⟨⟨by decide, by decide⟩, by decide, by decide⟩ (lb rfl) ?_
  refine w_istore_n dX7_isProved_22 (by decide) rfl ?_
  refine w_iload_n dX7_isProved_23 rfl ?_
  refine w_iconst (v := (-1)) dX7_isProved_24 (by decide) ?_
  refine w_icmp_eq (tgt := 37) dX7_isProved_25 (by decide) (fun c_25 => ?_) (fun c_25 => ?_)
  · refine w_iconst (v := 0) dX7_isProved_37 (by decide) ?_
    refine w_iret dX7_isProved_38 rfl rfl (by first | exact ⟨rt_f (by have e := o2i_none c_25 (fun t ht => by have := perOf_some ht; omega); unfold prS; rw [e]), rfl⟩ | exact ⟨rt_f (by obtain ⟨t, ht⟩ := o2i_some c_25; unfold prS; rw [ht]; show (decide _ && _) = false; rw [decide_eq_false (fun q => c_34 (by rw [q]; rfl))]; rfl), rfl⟩) (by decide) (by decide)
  · refine w_aload_n dX7_isProved_28 rfl ?_
    refine x_getr (ci := 7) (k := 6) (a := 85) dX7_isProved_29 rfl (by decide) (by decide) (by omega) fl_X7_26 (Or.inr ⟨_, rfl⟩) hR.2.2.2.2.2.2.1 ?_
    refine w_iload_n dX7_isProved_32 rfl ?_
    refine x_iald (j := k) dX7_isProved_33 rfl (by omega) rfl (show k < 6 by omega) ?_
    rw [q1]
    refine w_if_eq (tgt := 39) dX7_isProved_34 (by decide) (fun c_34 => ?_) (fun c_34 => ?_)
    · refine w_iconst (v := 0) dX7_isProved_39 (by decide) ?_
      refine w_istore dX7_isProved_40 (by decide) rfl ?_
      refine w_iconst (v := 0) dX7_isProved_42 (by decide) ?_
      refine w_istore dX7_isProved_43 (by decide) rfl ?_
      obtain ⟨t, ht⟩ := o2i_some c_25
      rw [show o2i (perOf (vS A.ru k) m) = nI t from by rw [ht]; rfl]
      exact w_lv [5, 4, 3, 0, 1, 2] (loop t ht (n_eq (b := 0) c_34) al.length 0 (by omega))
    · refine w_iconst (v := 0) dX7_isProved_37 (by decide) ?_
      refine w_iret dX7_isProved_38 rfl rfl (by first | exact ⟨rt_f (by have e := o2i_none c_25 (fun t ht => by have := perOf_some ht; omega); unfold prS; rw [e]), rfl⟩ | exact ⟨rt_f (by obtain ⟨t, ht⟩ := o2i_some c_25; unfold prS; rw [ht]; show (decide _ && _) = false; rw [decide_eq_false (fun q => c_34 (by rw [q]; rfl))]; rfl), rfl⟩) (by decide) (by decide)
set_option maxRecDepth 100000 in
theorem m_heap_x1 (hR : lkM R N) (hA : aOK A) (h : rM I A c) {x : Int32} (hx : x < 0 ∨ ¬ x < nI A.st.hs.length) (w : Int32) : g_Ct E l mX7_heap 3 70 0 0 [.ref 79, .int x, .int w] (I, J, R, D, N, ex) (g_is (some (.int 0)) (up2 (up2 I 79 17 0) 79 17 1, J, R, D, N, ex)) := by
  refine g_Ct.of (by decide +kernel) (lb rfl) ?_
  have hN := hR.1
  have h9 := h.thr 0
  have z9 : up2 I 79 17 0 79 17 = 0 := up2_s ..
  have h6 := hA.1
  refine w_aload_n dX7_heap_0 rfl ?_
  refine w_iconst (v := 0) dX7_heap_1 (by decide) ?_
  refine x_puti (ci := 7) (k := 17) dX7_heap_2 rfl (by decide) (by decide) (by omega) fl_X7_73 rfl rfl ?_
  refine w_aload_n dX7_heap_5 rfl ?_
  refine w_iload_n dX7_heap_6 rfl ?_
  refine y_callV dX7_heap_7 lk_X7_378 [.int x] rfl (m_mayHeap_f E l hR z9 h9.1.1 hA.2.2.1.1 hx) (g_recv.obj (ci := 7) rfl (by decide) (show 79 < N by omega)) rfl ⟨⟨by decide, by decide⟩, by decide, by decide⟩ (lb rfl) ?_
  refine w_if_eq (tgt := 27) dX7_heap_10 (by decide) (fun c_10 => ?_) (fun c_10 => absurd (rfl) c_10)
  refine w_iconst (v := 0) dX7_heap_27 (by decide) ?_
  refine w_iret dX7_heap_28 rfl rfl ⟨rfl, rfl⟩ (by decide) (by decide)
set_option maxRecDepth 100000 in
theorem m_heap_x2 (hR : lkM R N) (hA : aOK A) (h : rM I A c) {k : Nat} (hk : k < A.st.hs.length) {w : Int32} (hw : w < 0 ∨ ¬ w < nI 4) : g_Ct E l mX7_heap 3 70 0 0 [.ref 79, .int (nI k), .int w] (I, J, R, D, N, ex) (g_is (some (.int 0)) (up2 (up2 I 79 17 0) 79 17 2, J, R, D, N, ex)) := by
  refine g_Ct.of (by decide +kernel) (lb rfl) ?_
  have hN := hR.1
  have h9 := h.thr 0
  have z9 : up2 I 79 17 0 79 17 = 0 := up2_s ..
  have h6 := hA.1
  refine w_aload_n dX7_heap_0 rfl ?_
  refine w_iconst (v := 0) dX7_heap_1 (by decide) ?_
  refine x_puti (ci := 7) (k := 17) dX7_heap_2 rfl (by decide) (by decide) (by omega) fl_X7_73 rfl rfl ?_
  refine w_aload_n dX7_heap_5 rfl ?_
  refine w_iload_n dX7_heap_6 rfl ?_
  refine y_callV dX7_heap_7 lk_X7_378 [.int (nI k)] rfl (m_mayHeap_t E l hR z9 h9.1.1 hA.2.2.1.1 hk) (g_recv.obj (ci := 7) rfl (by decide) (show 79 < N by omega)) rfl ⟨⟨by decide, by decide⟩, by decide, by decide⟩ (lb rfl) ?_
  refine w_if_eq (tgt := 27) dX7_heap_10 (by decide) (fun c_10 => absurd c_10 ((by decide))) (fun c_10 => ?_)
  refine w_aload_n dX7_heap_13 rfl ?_
  refine w_iload_n dX7_heap_14 rfl ?_
  refine w_iconst (v := 0) dX7_heap_15 (by decide) ?_
  refine w_iconst (v := 3) dX7_heap_16 (by decide) ?_
  refine y_callS dX7_heap_17 lk_X7_77 [.int w, .int 0, .int 3] rfl (m_within E l _ _ _ _) rfl ⟨⟨by decide, by decide⟩, by decide, by decide⟩ (lb rfl) ?_
  rw [decide_eq_false (show ¬ (¬ w < 0 ∧ ¬ (3 : Int32) < w) from wi_f (n := 4) (by omega) hw)]
  refine w_iconst (v := 2) dX7_heap_20 (by decide) ?_
  refine y_callV dX7_heap_21 lk_X7_256 [.int 0, .int 2] rfl (m_may_f E l (by omega) z9 (by decide)) (g_recv.obj (ci := 7) rfl (by decide) (show 79 < N by omega)) rfl ⟨⟨by decide, by decide⟩, by decide, by decide⟩ (lb rfl) ?_
  refine w_if_ne (tgt := 29) dX7_heap_24 (by decide) (fun c_24 => absurd (rfl) c_24) (fun c_24 => ?_)
  refine w_iconst (v := 0) dX7_heap_27 (by decide) ?_
  refine w_iret dX7_heap_28 rfl rfl ⟨rfl, rfl⟩ (by decide) (by decide)
set_option maxRecDepth 100000 in
theorem m_heap (hR : lkM R N) (hA : aOK A) (h : rM I A c) {k : Nat} (hk : k < A.st.hs.length) {w : Nat} (hw : w < 4) : g_Ct E l mX7_heap 3 70 0 0 [.ref 79, .int (nI k), .int (nI w)] (I, J, R, D, N, ex) (g_is (some (.int (hpS A k w))) (up2 I 79 17 0, J, R, D, N, ex)) := by
  refine g_Ct.of (by decide +kernel) (lb rfl) ?_
  have hN := hR.1
  have h9 := h.thr 0
  have z9 : up2 I 79 17 0 79 17 = 0 := up2_s ..
  have h6 := hA.1
  have h4 := hA.2.2.1.1
  have hrl := hA.2.2.1.rl hk
  have hsz := hA.2.2.1.sz k
  obtain ⟨d1, d2⟩ := h9.1.2.1 k hk
  obtain ⟨al, hm1, hm2⟩ := h9.2.2.2.1.2.1 _ hrl
  rw [show 0 + 1 + k = 1 + k by omega] at d1
  rw [show 0 + 5 + k = 5 + k by omega] at d2
  refine w_aload_n dX7_heap_0 rfl ?_
  refine w_iconst (v := 0) dX7_heap_1 (by decide) ?_
  refine x_puti (ci := 7) (k := 17) dX7_heap_2 rfl (by decide) (by decide) (by omega) fl_X7_73 rfl rfl ?_
  refine w_aload_n dX7_heap_5 rfl ?_
  refine w_iload_n dX7_heap_6 rfl ?_
  refine y_callV dX7_heap_7 lk_X7_378 [.int (nI k)] rfl (m_mayHeap_t E l hR z9 h9.1.1 hA.2.2.1.1 hk) (g_recv.obj (ci := 7) rfl (by decide) (show 79 < N by omega)) rfl ⟨⟨by decide, by decide⟩, by decide, by decide⟩ (lb rfl) ?_
  refine w_if_eq (tgt := 27) dX7_heap_10 (by decide) (fun c_10 => absurd c_10 ((by decide))) (fun c_10 => ?_)
  refine w_aload_n dX7_heap_13 rfl ?_
  refine w_iload_n dX7_heap_14 rfl ?_
  refine w_iconst (v := 0) dX7_heap_15 (by decide) ?_
  refine w_iconst (v := 3) dX7_heap_16 (by decide) ?_
  refine y_callS dX7_heap_17 lk_X7_77 [.int (nI w), .int 0, .int 3] rfl (m_within E l _ _ _ _) rfl ⟨⟨by decide, by decide⟩, by decide, by decide⟩ (lb rfl) ?_
  rw [decide_eq_true (show ¬ nI w < 0 ∧ ¬ (3 : Int32) < nI w from wi_t (n := 4) hw (by omega))]
  refine w_iconst (v := 2) dX7_heap_20 (by decide) ?_
  refine y_callV dX7_heap_21 lk_X7_256 [.int 1, .int 2] rfl (m_may_t E l (by omega) z9 2) (g_recv.obj (ci := 7) rfl (by decide) (show 79 < N by omega)) rfl ⟨⟨by decide, by decide⟩, by decide, by decide⟩ (lb rfl) ?_
  refine w_if_ne (tgt := 29) dX7_heap_24 (by decide) (fun c_24 => ?_) (fun c_24 => absurd c_24 ((by decide)))
  refine w_aload_n dX7_heap_29 rfl ?_
  refine x_getr (ci := 7) (k := 0) (a := 80) dX7_heap_30 rfl (by decide) (by decide) (by omega) fl_X7_7 (Or.inr ⟨_, rfl⟩) hR.2.1 ?_
  refine w_iconst (v := 1) dX7_heap_33 (by decide) ?_
  refine w_iload_n dX7_heap_34 rfl ?_
  refine w_iadd dX7_heap_35 ?_
  refine w_st (show _ = [.int (nI (1 + k)), .ref 80] from by rw [← nI_add]; rfl) ?_
  refine x_iald (j := 1 + k) dX7_heap_36 rfl (by omega) rfl (show 1 + k < 172 by omega) ?_
  rw [d1]
  refine w_istore_n dX7_heap_37 (by decide) rfl ?_
  refine w_aload_n dX7_heap_38 rfl ?_
  refine x_getr (ci := 7) (k := 0) (a := 80) dX7_heap_39 rfl (by decide) (by decide) (by omega) fl_X7_7 (Or.inr ⟨_, rfl⟩) hR.2.1 ?_
  refine w_iconst (v := 5) dX7_heap_42 (by decide) ?_
  refine w_iload_n dX7_heap_43 rfl ?_
  refine w_iadd dX7_heap_44 ?_
  refine w_st (show _ = [.int (nI (5 + k)), .ref 80] from by rw [← nI_add]; rfl) ?_
  refine x_iald (j := 5 + k) dX7_heap_45 rfl (by omega) rfl (show 5 + k < 172 by omega) ?_
  rw [d2]
  refine w_istore dX7_heap_46 (by decide) rfl ?_
  refine w_iload_n dX7_heap_48 rfl ?_
  rcases (show w = 0 ∨ w = 1 ∨ w = 2 ∨ w = 3 by omega) with rfl | rfl | rfl | rfl
  · refine w_tblIn (off := 27) (tgt := 76) dX7_heap_49 (by decide) (by decide) (by decide) (by decide) ?_
    refine w_iload_n dX7_heap_76 rfl ?_
    refine w_iret dX7_heap_77 rfl rfl ⟨rfl, rfl⟩ (by decide) (by decide)
  · refine w_tblIn (off := 29) (tgt := 78) dX7_heap_49 (by decide) (by decide) (by decide) (by decide) ?_
    refine w_iload dX7_heap_78 rfl ?_
    refine w_iret dX7_heap_80 rfl rfl ⟨rfl, rfl⟩ (by decide) (by decide)
  · refine w_tblIn (off := 32) (tgt := 81) dX7_heap_49 (by decide) (by decide) (by decide) (by decide) ?_
    refine w_aload_n dX7_heap_81 rfl ?_
    refine w_iload_n dX7_heap_82 rfl ?_
    refine w_iload dX7_heap_83 rfl ?_
    refine y_callV dX7_heap_85 lk_X7_101 [.int (nI (A.st.rl k)), .int (nI (A.st.sz k))] rfl (m_valueOf E l hR.1 hR.2.2.2.2.2.2.2.2.2.2.2.2.1 (show A.st.rl k < 6 by omega) (show A.st.sz k < 301 by omega)) (g_recv.obj (ci := 7) rfl (by decide) (show 79 < N by omega)) rfl ⟨⟨by decide, by decide⟩, by decide, by decide⟩ (lb rfl) ?_
    rw [h9.2.2.2.2.1.1 _ hrl _ (show A.st.sz k < 301 by omega)]
    refine w_iret dX7_heap_88 rfl rfl ⟨rfl, rfl⟩ (by decide) (by decide)
  · refine w_tblOut (tgt := 89) dX7_heap_49 (by decide) (by decide) ?_
    refine w_aload_n dX7_heap_89 rfl ?_
    refine w_iload_n dX7_heap_90 rfl ?_
    refine w_iload dX7_heap_91 rfl ?_
    refine y_callV dX7_heap_93 lk_X7_372 [.int (nI (A.st.rl k)), .int (nI (A.st.sz k))] rfl (m_amountsAt E l hR (show A.st.rl k < 6 by omega) hm1 (show A.st.sz k ≤ 300 by omega)) (g_recv.obj (ci := 7) rfl (by decide) (show 79 < N by omega)) rfl ⟨⟨by decide, by decide⟩, by decide, by decide⟩ (lb rfl) ?_
    rw [← hm2]
    refine w_iret dX7_heap_96 rfl rfl ⟨rfl, rfl⟩ (by decide) (by decide)
set_option maxRecDepth 100000 in
theorem m_nimSum (hR : lkM R N) (hA : aOK A) (h : rM I A c) : g_Ct E l mX7_nimSum 1 22 0 0 [.ref 79] (I, J, R, D, N, ex) (g_is (some (.int (nsS A A.st.hs.length))) (up2 I 79 17 0, J, R, D, N, ex)) := by
  refine g_Ct.of (by decide +kernel) (lb rfl) ?_
  have hN := hR.1
  have h9 := h.thr 0
  have z9 : up2 I 79 17 0 79 17 = 0 := up2_s ..
  have h6 := hA.1
  have h4 := hA.2.2.1.1
  have loop : ∀ f k : Nat, k + f = A.st.hs.length → g_Wp E l mX7_nimSum { frames := 1, cells := 0, slots := 0, locals := 22 } (g_Fin E (g_is (some (.int (nsS A A.st.hs.length))) (up2 I 79 17 0, J, R, D, N, ex)) 0 0) 0 0 9 [(2, .int (nI k)), (1, .int (nsS A k)), (0, .ref 79)] [] (up2 I 79 17 0, J, R, D, N, ex) := by
    intro f
    induction f with
    | zero =>
      intro k hk
      obtain rfl : k = A.st.hs.length := by omega
      refine w_iload_n dX7_nimSum_9 rfl ?_
      refine w_aload_n dX7_nimSum_10 rfl ?_
      refine x_getr (ci := 7) (k := 0) (a := 80) dX7_nimSum_11 rfl (by decide) (by decide) (by omega) fl_X7_7 (Or.inr ⟨_, rfl⟩) hR.2.1 ?_
      refine w_iconst (v := 0) dX7_nimSum_14 (by decide) ?_
      refine x_iald (j := 0) dX7_nimSum_15 rfl (by omega) rfl (show 0 < 172 by decide) ?_
      rw [h9.1.1]
      refine w_icmp_ge (tgt := 48) dX7_nimSum_16 (by decide) (fun c_16 => ?_) (fun c_16 => absurd ((nI_le (by omega) (by omega))) c_16)
      refine w_iload_n dX7_nimSum_48 rfl ?_
      refine w_iret dX7_nimSum_49 rfl rfl ⟨rfl, rfl⟩ (by decide) (by decide)
    | succ f ih =>
      intro k hkk
      have hk : k < A.st.hs.length := by omega
      have hrl := hA.2.2.1.rl hk
      have hsz := hA.2.2.1.sz k
      obtain ⟨d1, d2⟩ := h9.1.2.1 k hk
      rw [show 0 + 1 + k = 1 + k by omega] at d1
      rw [show 0 + 5 + k = 5 + k by omega] at d2
      refine w_iload_n dX7_nimSum_9 rfl ?_
      refine w_aload_n dX7_nimSum_10 rfl ?_
      refine x_getr (ci := 7) (k := 0) (a := 80) dX7_nimSum_11 rfl (by decide) (by decide) (by omega) fl_X7_7 (Or.inr ⟨_, rfl⟩) hR.2.1 ?_
      refine w_iconst (v := 0) dX7_nimSum_14 (by decide) ?_
      refine x_iald (j := 0) dX7_nimSum_15 rfl (by omega) rfl (show 0 < 172 by decide) ?_
      rw [h9.1.1]
      refine w_icmp_ge (tgt := 48) dX7_nimSum_16 (by decide) (fun c_16 => absurd c_16 ((nI_ge (by omega) (by omega)))) (fun c_16 => ?_)
      refine w_iload_n dX7_nimSum_19 rfl ?_
      refine w_aload_n dX7_nimSum_20 rfl ?_
      refine w_aload_n dX7_nimSum_21 rfl ?_
      refine x_getr (ci := 7) (k := 0) (a := 80) dX7_nimSum_22 rfl (by decide) (by decide) (by omega) fl_X7_7 (Or.inr ⟨_, rfl⟩) hR.2.1 ?_
      refine w_iconst (v := 1) dX7_nimSum_25 (by decide) ?_
      refine w_iload_n dX7_nimSum_26 rfl ?_
      refine w_iadd dX7_nimSum_27 ?_
      rw [show (1 : Int32) + nI k = nI (1 + k) from by rw [← nI_add]; rfl]
      refine x_iald (j := 1 + k) dX7_nimSum_28 rfl (by omega) rfl (show 1 + k < 172 by omega) ?_
      rw [d1]
      refine w_aload_n dX7_nimSum_29 rfl ?_
      refine x_getr (ci := 7) (k := 0) (a := 80) dX7_nimSum_30 rfl (by decide) (by decide) (by omega) fl_X7_7 (Or.inr ⟨_, rfl⟩) hR.2.1 ?_
      refine w_iconst (v := 5) dX7_nimSum_33 (by decide) ?_
      refine w_iload_n dX7_nimSum_34 rfl ?_
      refine w_iadd dX7_nimSum_35 ?_
      rw [show (5 : Int32) + nI k = nI (5 + k) from by rw [← nI_add]; rfl]
      refine x_iald (j := 5 + k) dX7_nimSum_36 rfl (by omega) rfl (show 5 + k < 172 by omega) ?_
      rw [d2]
      refine y_callV dX7_nimSum_37 lk_X7_101 [.int (nI (A.st.rl k)), .int (nI (A.st.sz k))] rfl (m_valueOf E l hR.1 hR.2.2.2.2.2.2.2.2.2.2.2.2.1 (show A.st.rl k < 6 by omega) (show A.st.sz k < 301 by omega)) (g_recv.obj (ci := 7) rfl (by decide) (show 79 < N by omega)) rfl ⟨⟨by decide, by decide⟩, by decide, by decide⟩ (lb rfl) ?_
      rw [h9.2.2.2.2.1.1 _ hrl _ (show A.st.sz k < 301 by omega)]
      refine w_ixor dX7_nimSum_40 ?_
      refine w_istore_n dX7_nimSum_41 (by decide) rfl ?_
      refine w_iinc (v := nI (k + 1)) dX7_nimSum_42 rfl (nI_inc _) (by decide) rfl ?_
      refine w_goto (tgt := 9) dX7_nimSum_45 (by decide) ?_
      exact w_lv [2, 1, 0] (ih (k + 1) (by omega))
  refine w_aload_n dX7_nimSum_0 rfl ?_
  refine w_iconst (v := 0) dX7_nimSum_1 (by decide) ?_
  refine x_puti (ci := 7) (k := 17) dX7_nimSum_2 rfl (by decide) (by decide) (by omega) fl_X7_73 rfl rfl ?_
  refine w_iconst (v := 0) dX7_nimSum_5 (by decide) ?_
  refine w_istore_n dX7_nimSum_6 (by decide) rfl ?_
  refine w_iconst (v := 0) dX7_nimSum_7 (by decide) ?_
  refine w_istore_n dX7_nimSum_8 (by decide) rfl ?_
  exact w_lv [2, 1, 0] (loop A.st.hs.length 0 (by omega))
end MG
