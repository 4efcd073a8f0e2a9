/-! HeapGamesModel: append, laysValues -/
def selA (a b c d e : Int32) (k : Nat) : Int32 := if k < 4 then a else if k < 8 then b else if k < 12 then c else if k < 16 then d else e
def appU (tx : Nat → Nat) (tl : Nat) (a b c d e : Int32) : Nat → Nat → Nat
  | 0 => tx
  | k + 1 => putT (appU tx tl a b c d e k) (tl + k) (byN (byW (selA a b c d e k) (k % 4)))
theorem appU_20 (tx : Nat → Nat) (tl : Nat) (a b c d e : Int32) : appU tx tl a b c d e 20 = appT tx tl a b c d e := rfl
theorem shv_m (m : Nat) (hm : m < 4) : (24 : Int32) - 8 * nI m = shv m := by
  rcases (show m = 0 ∨ m = 1 ∨ m = 2 ∨ m = 3 by omega) with rfl | rfl | rfl | rfl <;> decide
theorem rM.app {I I' : Nat → Nat → Int32} {A : AS} {c : Nat} (h : rM I A c) (f1 : ∀ o, o ≠ 79 → o ≠ 96 → I' o = I o) (f2 : ∀ k, k ≠ 17 → k ≠ 22 → I' 79 k = I 79 k) {tx : Nat → Nat} {tl : Nat} (ht : txM I' tx tl) : rM I' (A.ru, A.nr, A.st, A.hi, A.sn, tx, tl) c := by
  obtain ⟨h1, h2, h3, h4, h5, h6, h7, h8⟩ := h
  have g : ∀ o, o ≠ 79 → o ≠ 96 → I' o = I o := f1
  exact ⟨h1.fr (g _ (by decide) (by decide)), h2.fr (g _ (by decide) (by decide)) (f2 _ (by decide) (by decide)), h3.fr (g _ (by decide) (by decide)) (g _ (by decide) (by decide)), h4.fr (fun o a b => g o (by omega) (by omega)) (f2 _ (by decide) (by decide)) (f2 _ (by decide) (by decide)), h5.fr (g _ (by decide) (by decide)) (g _ (by decide) (by decide)), ht, h7.fr (g _ (by decide) (by decide)) (f2 _ (by decide) (by decide)), h8.fr (g _ (by decide) (by decide)) (g _ (by decide) (by decide)) (fun k _ _ => f2 k (by omega) (by omega))⟩
section MY
variable (E : GE) (l : Launch)
variable {I : Nat → Nat → Int32} {J : Nat → Nat → Int64} {R : Nat → Nat → Option Nat} {D : Nat → Nat → UInt64} {N : Nat} {ex : Bool} {A : AS} {cc : Nat}
set_option maxRecDepth 100000 in
theorem m_append_no (hR : lkM R N) (hA : aOK A) (h : rM I A cc) (hf : ¬ A.tl + 20 ≤ 400) (a b c d e : Int32) : g_Ct E l mX7_append 0 0 0 0 [.ref 79, .int a, .int b, .int c, .int d, .int e] (I, J, R, D, N, ex) (g_is (some (.int (-1))) (up2 I 79 17 0, J, R, D, N, ex)) := by
  refine g_Ct.of (by decide +kernel) (lb rfl) ?_
  have hN := hR.1
  have h9 := h.thr 0
  have h4 := hA.2.2.2.1
  refine w_aload_n dX7_append_0 rfl ?_
  refine w_iconst (v := 0) dX7_append_1 (by decide) ?_
  refine x_puti (ci := 7) (k := 17) dX7_append_2 rfl (by decide) (by decide) (by omega) fl_X7_73 rfl rfl ?_
  refine w_aload_n dX7_append_5 rfl ?_
  refine x_geti (ci := 7) (k := 22) dX7_append_6 rfl (by decide) (by decide) (by omega) fl_X7_116 rfl ?_
  rw [h9.2.2.2.2.2.1.1]
  refine w_bipush (v := 20) dX7_append_9 (by decide) ?_
  refine w_iadd dX7_append_11 ?_
  refine w_st (show _ = [.int (nI (A.tl + 20))] from by rw [← nI_add]; rfl) ?_
  refine w_sipush (v := 400) dX7_append_12 (by decide) ?_
  refine w_icmp_le (tgt := 20) dX7_append_15 (by decide) (fun c_15 => absurd c_15 ((fun q => absurd (n_le (a := A.tl + 20) (b := 400) q) hf))) (fun c_15 => ?_)
  refine w_iconst (v := (-1)) dX7_append_18 (by decide) ?_
  refine w_iret dX7_append_19 rfl rfl ⟨rfl, rfl⟩ (by decide) (by decide)
set_option maxRecDepth 100000 in
theorem m_append (hR : lkM R N) (hA : aOK A) (h : rM I A cc) (hf : A.tl + 20 ≤ 400) (a b c d e : Int32) : g_Ct E l mX7_append 0 0 0 0 [.ref 79, .int a, .int b, .int c, .int d, .int e] (I, J, R, D, N, ex) (g_ri (fun y I' => y = nI (A.tl + 20) ∧ qP I (A.ru, A.nr, A.st, A.hi, A.sn, appT A.tx A.tl a b c d e, A.tl + 20) cc 0 I') J R D N ex) := by
  refine g_Ct.of (by decide +kernel) (lb rfl) ?_
  have hN := hR.1
  have h9 := h.thr 0
  have loop : ∀ (f k : Nat) (I' : Nat → Nat → Int32), k + f = 20 → (∀ o, o ≠ 79 → o ≠ 96 → I' o = up2 I 79 17 0 o) → (∀ j, j ≠ 22 → I' 79 j = up2 I 79 17 0 79 j) → txM I' (appU A.tx A.tl a b c d e k) (A.tl + k) → g_Wp E l mX7_append { frames := 0, cells := 0, slots := 0, locals := 0 } (g_Fin E (g_ri (fun y I' => y = nI (A.tl + 20) ∧ qP I (A.ru, A.nr, A.st, A.hi, A.sn, appT A.tx A.tl a b c d e, A.tl + 20) cc 0 I') J R D N ex) 0 0) 0 0 23 [(6, .int (nI k)), (0, .ref 79), (1, .int a), (2, .int b), (3, .int c), (4, .int d), (5, .int e)] [] (I', J, R, D, N, ex) := by
    intro f
    induction f with
    | zero =>
      intro k I' hk g1 g2 g3
      obtain rfl : k = 20 := by omega
      have r9 := h9.app g1 (fun k _ b => g2 k b) g3
      rw [appU_20] at r9
      refine w_iload dX7_append_23 rfl ?_
      refine w_bipush (v := 20) dX7_append_25 (by decide) ?_
      refine w_icmp_ge (tgt := 120) dX7_append_27 (by decide) (fun c_27 => ?_) (fun c_27 => absurd ((by decide)) c_27)
      refine w_aload_n dX7_append_120 rfl ?_
      refine x_geti (ci := 7) (k := 22) dX7_append_121 rfl (by decide) (by decide) (by omega) fl_X7_116 rfl ?_
      rw [g3.1]
      refine w_iret dX7_append_124 rfl rfl ⟨_, _, rfl, ⟨rfl, fun o ho => by rw [g1 o (by omega) (by omega)]; funext j; exact up2_n _ _ (by omega), by rw [g2 17 (by decide), up2_s], r9.up (Nat.le_succ cc)⟩, rfl⟩ (by decide) (by decide)
    | succ f ih =>
      intro k I' hk g1 g2 g3
      have hm4 : k % 4 < 4 := Nat.mod_lt _ (by decide)
      have s76 : g_Wp E l mX7_append { frames := 0, cells := 0, slots := 0, locals := 0 } (g_Fin E (g_ri (fun y I' => y = nI (A.tl + 20) ∧ qP I (A.ru, A.nr, A.st, A.hi, A.sn, appT A.tx A.tl a b c d e, A.tl + 20) cc 0 I') J R D N ex) 0 0) 0 0 76 [(6, .int (nI k)), (0, .ref 79), (1, .int a), (2, .int b), (3, .int c), (4, .int d), (5, .int e)] [.int (selA a b c d e k)] (I', J, R, D, N, ex) := by
        refine w_istore dX7_append_76 (by decide) rfl ?_
        refine w_aload_n dX7_append_78 rfl ?_
        refine x_getr (ci := 7) (k := 21) (a := 96) dX7_append_79 rfl (by decide) (by decide) (by omega) fl_X7_60 (Or.inr ⟨_, rfl⟩) hR.2.2.2.2.2.2.2.2.2.2.2.2.2.2.2.2.2.1 ?_
        refine w_aload_n dX7_append_82 rfl ?_
        refine x_geti (ci := 7) (k := 22) dX7_append_83 rfl (by decide) (by decide) (by omega) fl_X7_116 rfl ?_
        rw [g3.1]
        refine w_iload dX7_append_86 rfl ?_
        refine w_bipush (v := 24) dX7_append_88 (by decide) ?_
        refine w_bipush (v := 8) dX7_append_90 (by decide) ?_
        refine w_iload dX7_append_92 rfl ?_
        refine w_iconst (v := 4) dX7_append_94 (by decide) ?_
        refine w_irem dX7_append_95 (by decide) ?_
        refine w_st (show _ = [.int (nI (k % 4)), .int 8, .int 24, .int (selA a b c d e k), .int (nI (A.tl + k)), .ref 96] from by rw [show (4 : Int32) = nI 4 from rfl, pk_rem (by omega) (by omega) (by omega)]) ?_
        refine w_imul dX7_append_96 ?_
        refine w_isub dX7_append_97 ?_
        rw [shv_m _ hm4]
        refine w_ishr dX7_append_98 ?_
        refine w_st (show _ = [.int (byW (selA a b c d e k) (k % 4)), .int (nI (A.tl + k)), .ref 96] from rfl) ?_
        refine w_sipush (v := 255) dX7_append_99 (by decide) ?_
        refine w_iand dX7_append_102 ?_
        rw [byN_and]
        refine x_iast (j := A.tl + k) dX7_append_103 rfl (by omega) rfl (show A.tl + k < 400 by omega) ?_
        refine w_aload_n dX7_append_104 rfl ?_
        refine w_dup dX7_append_105 rfl ?_
        refine x_geti (ci := 7) (k := 22) dX7_append_106 rfl (by decide) (by decide) (by omega) fl_X7_116 rfl ?_
        refine w_st (show _ = [.int (nI (A.tl + k)), .ref 79] from by rw [up2_n _ _ (by simp), g3.1]) ?_
        refine w_iconst (v := 1) dX7_append_109 (by decide) ?_
        refine w_iadd dX7_append_110 ?_
        rw [nI_1]
        refine x_puti (ci := 7) (k := 22) dX7_append_111 rfl (by decide) (by decide) (by omega) fl_X7_116 rfl rfl ?_
        refine w_iinc (v := nI (k + 1)) dX7_append_114 rfl (nI_inc _) (by decide) rfl ?_
        refine w_goto (tgt := 23) dX7_append_117 (by decide) ?_
        refine w_lv [6, 0, 1, 2, 3, 4, 5] (ih (k + 1) _ (by omega) (fun o p q => by rw [← g1 o p q]; funext j; rw [up2_n _ _ (by simp [p]), up2_n _ _ (by simp [q])]) (fun j p => by rw [up2_n _ _ (by simp [p]), up2_n _ _ (by simp)]; exact g2 j p) ⟨up2_s .., fun i hi => ?_⟩)
        rw [up2_n _ _ (by simp)]
        show _ = nI (if i = A.tl + k then byN (byW (selA a b c d e k) (k % 4)) else appU A.tx A.tl a b c d e k i)
        by_cases q : i = A.tl + k
        · rw [if_pos q, q, up2_s]
        · rw [if_neg q, up2_n _ _ (by simp [q])]; exact g3.2 i (by omega)
      refine w_iload dX7_append_23 rfl ?_
      refine w_bipush (v := 20) dX7_append_25 (by decide) ?_
      refine w_icmp_ge (tgt := 120) dX7_append_27 (by decide) (fun c_27 => absurd c_27 ((nI_ge (a := k) (b := 20) (by omega) (by omega)))) (fun c_27 => ?_)
      refine w_iload dX7_append_30 rfl ?_
      refine w_iconst (v := 4) dX7_append_32 (by decide) ?_
      refine w_icmp_ge (tgt := 40) dX7_append_33 (by decide) (fun c_33 => ?_) (fun c_33 => ?_)
      · refine w_iload dX7_append_40 rfl ?_
        refine w_bipush (v := 8) dX7_append_42 (by decide) ?_
        refine w_icmp_ge (tgt := 51) dX7_append_44 (by decide) (fun c_44 => ?_) (fun c_44 => ?_)
        · refine w_iload dX7_append_51 rfl ?_
          refine w_bipush (v := 12) dX7_append_53 (by decide) ?_
          refine w_icmp_ge (tgt := 62) dX7_append_55 (by decide) (fun c_55 => ?_) (fun c_55 => ?_)
          · refine w_iload dX7_append_62 rfl ?_
            refine w_bipush (v := 16) dX7_append_64 (by decide) ?_
            refine w_icmp_ge (tgt := 74) dX7_append_66 (by decide) (fun c_66 => ?_) (fun c_66 => ?_)
            · refine w_iload dX7_append_74 rfl ?_
              first | (have q4 : k < 4 := (Nat.not_le.mp (fun q => c_33 (nI_le (a := 4) (b := k) (by omega) (by omega)))); have t9 := s76; rw [show selA a b c d e k = a from if_pos q4] at t9; exact w_lv [6, 0, 1, 2, 3, 4, 5] t9) | (have q4 : 4 ≤ k := n_le (a := 4) c_33; have q8 : k < 8 := (Nat.not_le.mp (fun q => c_44 (nI_le (a := 8) (b := k) (by omega) (by omega)))); have t9 := s76; rw [show selA a b c d e k = b from by unfold selA; rw [if_neg (by omega), if_pos q8]] at t9; exact w_lv [6, 0, 1, 2, 3, 4, 5] t9) | (have q8 : 8 ≤ k := n_le (a := 8) c_44; have q12 : k < 12 := (Nat.not_le.mp (fun q => c_55 (nI_le (a := 12) (b := k) (by omega) (by omega)))); have t9 := s76; rw [show selA a b c d e k = c from by unfold selA; rw [if_neg (by omega), if_neg (by omega), if_pos q12]] at t9; exact w_lv [6, 0, 1, 2, 3, 4, 5] t9) | (have q12 : 12 ≤ k := n_le (a := 12) c_55; have q16 : k < 16 := (Nat.not_le.mp (fun q => c_66 (nI_le (a := 16) (b := k) (by omega) (by omega)))); have t9 := s76; rw [show selA a b c d e k = d from by unfold selA; rw [if_neg (by omega), if_neg (by omega), if_neg (by omega), if_pos q16]] at t9; exact w_lv [6, 0, 1, 2, 3, 4, 5] t9) | (have q16 : 16 ≤ k := n_le (a := 16) c_66; have t9 := s76; rw [show selA a b c d e k = e from by unfold selA; rw [if_neg (by omega), if_neg (by omega), if_neg (by omega), if_neg (by omega)]] at t9; exact w_lv [6, 0, 1, 2, 3, 4, 5] t9)
            · refine w_iload dX7_append_69 rfl ?_
              refine w_goto (tgt := 76) dX7_append_71 (by decide) ?_
              first | (have q4 : k < 4 := (Nat.not_le.mp (fun q => c_33 (nI_le (a := 4) (b := k) (by omega) (by omega)))); have t9 := s76; rw [show selA a b c d e k = a from if_pos q4] at t9; exact w_lv [6, 0, 1, 2, 3, 4, 5] t9) | (have q4 : 4 ≤ k := n_le (a := 4) c_33; have q8 : k < 8 := (Nat.not_le.mp (fun q => c_44 (nI_le (a := 8) (b := k) (by omega) (by omega)))); have t9 := s76; rw [show selA a b c d e k = b from by unfold selA; rw [if_neg (by omega), if_pos q8]] at t9; exact w_lv [6, 0, 1, 2, 3, 4, 5] t9) | (have q8 : 8 ≤ k := n_le (a := 8) c_44; have q12 : k < 12 := (Nat.not_le.mp (fun q => c_55 (nI_le (a := 12) (b := k) (by omega) (by omega)))); have t9 := s76; rw [show selA a b c d e k = c from by unfold selA; rw [if_neg (by omega), if_neg (by omega), if_pos q12]] at t9; exact w_lv [6, 0, 1, 2, 3, 4, 5] t9) | (have q12 : 12 ≤ k := n_le (a := 12) c_55; have q16 : k < 16 := (Nat.not_le.mp (fun q => c_66 (nI_le (a := 16) (b := k) (by omega) (by omega)))); have t9 := s76; rw [show selA a b c d e k = d from by unfold selA; rw [if_neg (by omega), if_neg (by omega), if_neg (by omega), if_pos q16]] at t9; exact w_lv [6, 0, 1, 2, 3, 4, 5] t9) | (have q16 : 16 ≤ k := n_le (a := 16) c_66; have t9 := s76; rw [show selA a b c d e k = e from by unfold selA; rw [if_neg (by omega), if_neg (by omega), if_neg (by omega), if_neg (by omega)]] at t9; exact w_lv [6, 0, 1, 2, 3, 4, 5] t9)
          · refine w_iload_n dX7_append_58 rfl ?_
            refine w_goto (tgt := 76) dX7_append_59 (by decide) ?_
            first | (have q4 : k < 4 := (Nat.not_le.mp (fun q => c_33 (nI_le (a := 4) (b := k) (by omega) (by omega)))); have t9 := s76; rw [show selA a b c d e k = a from if_pos q4] at t9; exact w_lv [6, 0, 1, 2, 3, 4, 5] t9) | (have q4 : 4 ≤ k := n_le (a := 4) c_33; have q8 : k < 8 := (Nat.not_le.mp (fun q => c_44 (nI_le (a := 8) (b := k) (by omega) (by omega)))); have t9 := s76; rw [show selA a b c d e k = b from by unfold selA; rw [if_neg (by omega), if_pos q8]] at t9; exact w_lv [6, 0, 1, 2, 3, 4, 5] t9) | (have q8 : 8 ≤ k := n_le (a := 8) c_44; have q12 : k < 12 := (Nat.not_le.mp (fun q => c_55 (nI_le (a := 12) (b := k) (by omega) (by omega)))); have t9 := s76; rw [show selA a b c d e k = c from by unfold selA; rw [if_neg (by omega), if_neg (by omega), if_pos q12]] at t9; exact w_lv [6, 0, 1, 2, 3, 4, 5] t9) | (have q12 : 12 ≤ k := n_le (a := 12) c_55; have q16 : k < 16 := (Nat.not_le.mp (fun q => c_66 (nI_le (a := 16) (b := k) (by omega) (by omega)))); have t9 := s76; rw [show selA a b c d e k = d from by unfold selA; rw [if_neg (by omega), if_neg (by omega), if_neg (by omega), if_pos q16]] at t9; exact w_lv [6, 0, 1, 2, 3, 4, 5] t9) | (have q16 : 16 ≤ k := n_le (a := 16) c_66; have t9 := s76; rw [show selA a b c d e k = e from by unfold selA; rw [if_neg (by omega), if_neg (by omega), if_neg (by omega), if_neg (by omega)]] at t9; exact w_lv [6, 0, 1, 2, 3, 4, 5] t9)
        · refine w_iload_n dX7_append_47 rfl ?_
          refine w_goto (tgt := 76) dX7_append_48 (by decide) ?_
          first | (have q4 : k < 4 := (Nat.not_le.mp (fun q => c_33 (nI_le (a := 4) (b := k) (by omega) (by omega)))); have t9 := s76; rw [show selA a b c d e k = a from if_pos q4] at t9; exact w_lv [6, 0, 1, 2, 3, 4, 5] t9) | (have q4 : 4 ≤ k := n_le (a := 4) c_33; have q8 : k < 8 := (Nat.not_le.mp (fun q => c_44 (nI_le (a := 8) (b := k) (by omega) (by omega)))); have t9 := s76; rw [show selA a b c d e k = b from by unfold selA; rw [if_neg (by omega), if_pos q8]] at t9; exact w_lv [6, 0, 1, 2, 3, 4, 5] t9) | (have q8 : 8 ≤ k := n_le (a := 8) c_44; have q12 : k < 12 := (Nat.not_le.mp (fun q => c_55 (nI_le (a := 12) (b := k) (by omega) (by omega)))); have t9 := s76; rw [show selA a b c d e k = c from by unfold selA; rw [if_neg (by omega), if_neg (by omega), if_pos q12]] at t9; exact w_lv [6, 0, 1, 2, 3, 4, 5] t9) | (have q12 : 12 ≤ k := n_le (a := 12) c_55; have q16 : k < 16 := (Nat.not_le.mp (fun q => c_66 (nI_le (a := 16) (b := k) (by omega) (by omega)))); have t9 := s76; rw [show selA a b c d e k = d from by unfold selA; rw [if_neg (by omega), if_neg (by omega), if_neg (by omega), if_pos q16]] at t9; exact w_lv [6, 0, 1, 2, 3, 4, 5] t9) | (have q16 : 16 ≤ k := n_le (a := 16) c_66; have t9 := s76; rw [show selA a b c d e k = e from by unfold selA; rw [if_neg (by omega), if_neg (by omega), if_neg (by omega), if_neg (by omega)]] at t9; exact w_lv [6, 0, 1, 2, 3, 4, 5] t9)
      · refine w_iload_n dX7_append_36 rfl ?_
        refine w_goto (tgt := 76) dX7_append_37 (by decide) ?_
        first | (have q4 : k < 4 := (Nat.not_le.mp (fun q => c_33 (nI_le (a := 4) (b := k) (by omega) (by omega)))); have t9 := s76; rw [show selA a b c d e k = a from if_pos q4] at t9; exact w_lv [6, 0, 1, 2, 3, 4, 5] t9) | (have q4 : 4 ≤ k := n_le (a := 4) c_33; have q8 : k < 8 := (Nat.not_le.mp (fun q => c_44 (nI_le (a := 8) (b := k) (by omega) (by omega)))); have t9 := s76; rw [show selA a b c d e k = b from by unfold selA; rw [if_neg (by omega), if_pos q8]] at t9; exact w_lv [6, 0, 1, 2, 3, 4, 5] t9) | (have q8 : 8 ≤ k := n_le (a := 8) c_44; have q12 : k < 12 := (Nat.not_le.mp (fun q => c_55 (nI_le (a := 12) (b := k) (by omega) (by omega)))); have t9 := s76; rw [show selA a b c d e k = c from by unfold selA; rw [if_neg (by omega), if_neg (by omega), if_pos q12]] at t9; exact w_lv [6, 0, 1, 2, 3, 4, 5] t9) | (have q12 : 12 ≤ k := n_le (a := 12) c_55; have q16 : k < 16 := (Nat.not_le.mp (fun q => c_66 (nI_le (a := 16) (b := k) (by omega) (by omega)))); have t9 := s76; rw [show selA a b c d e k = d from by unfold selA; rw [if_neg (by omega), if_neg (by omega), if_neg (by omega), if_pos q16]] at t9; exact w_lv [6, 0, 1, 2, 3, 4, 5] t9) | (have q16 : 16 ≤ k := n_le (a := 16) c_66; have t9 := s76; rw [show selA a b c d e k = e from by unfold selA; rw [if_neg (by omega), if_neg (by omega), if_neg (by omega), if_neg (by omega)]] at t9; exact w_lv [6, 0, 1, 2, 3, 4, 5] t9)
  have ht := h9.2.2.2.2.2.1
  refine w_aload_n dX7_append_0 rfl ?_
  refine w_iconst (v := 0) dX7_append_1 (by decide) ?_
  refine x_puti (ci := 7) (k := 17) dX7_append_2 rfl (by decide) (by decide) (by omega) fl_X7_73 rfl rfl ?_
  refine w_aload_n dX7_append_5 rfl ?_
  refine x_geti (ci := 7) (k := 22) dX7_append_6 rfl (by decide) (by decide) (by omega) fl_X7_116 rfl ?_
  rw [ht.1]
  refine w_bipush (v := 20) dX7_append_9 (by decide) ?_
  refine w_iadd dX7_append_11 ?_
  refine w_st (show _ = [.int (nI (A.tl + 20))] from by rw [← nI_add]; rfl) ?_
  refine w_sipush (v := 400) dX7_append_12 (by decide) ?_
  refine w_icmp_le (tgt := 20) dX7_append_15 (by decide) (fun c_15 => ?_) (fun c_15 => absurd ((nI_le (a := A.tl + 20) (b := 400) (by omega) (by omega))) c_15)
  refine w_iconst (v := 0) dX7_append_20 (by decide) ?_
  refine w_istore dX7_append_21 (by decide) rfl ?_
  exact w_lv [6, 0, 1, 2, 3, 4, 5] (loop 20 0 _ (by omega) (fun _ _ _ => rfl) (fun _ _ => rfl) ht)
end MY
