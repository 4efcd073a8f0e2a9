/-! HeapGamesModel: plays -/
section MV1
variable (E : GE) (l : Launch)
variable {I : Nat → Nat → Int32} {J : Nat → Nat → Int64} {R : Nat → Nat → Option Nat} {D : Nat → Nat → UInt64} {N : Nat} {ex : Bool} {A : AS} {c : Nat}

theorem frD.up {I I' : Nat → Nat → Int32} (h : frD I I') (k : Nat) (v : Int32) : frD I (up2 I' 80 k v) := fun o ho => by rw [← h o ho]; funext j; exact up2_n _ _ (by simp [ho])
set_option maxRecDepth 100000 in
theorem m_plays (hR : lkM R N) (hA : aOK A) (h : rM I A c) {m : Mv} (hw : mvW m) (hok : playOK A.st m) (hf : A.st.pl.length < 40) : g_Ct E l mX7_plays 2 46 0 0 [.ref 79, .int (deS m 0), .int (deS m 1), .int (deS m 2), .int (deS m 3)] (I, J, R, D, N, ex) (g_rv (fun I' => frO I I' ∧ rM I' (A.rec (A.st.play m)) c) J R D N ex) := by
  refine g_Ct.of (by decide +kernel) (lb rfl) ?_
  have hN := hR.1
  have hs := hA.2.2.1
  have l4 := hs.1
  have lg9 : ∀ (m : Mv) (I1 : Nat → Nat → Int32), slM I1 80 0 A.st → slM (up2 (up2 (up2 (up2 (up2 I1 80 (12 + 4 * A.st.pl.length) (deS m 0)) 80 (12 + 4 * A.st.pl.length + 1) (deS m 1)) 80 (12 + 4 * A.st.pl.length + 2) (deS m 2)) 80 (12 + 4 * A.st.pl.length + 3) (deS m 3)) 80 11 (nI (A.st.pl.length + 1))) 80 0 (A.st.log m) := by
    intro m I1 h1
    refine h1.log l4 (fun j a b => ?_) (up2_s ..) (fun w hw => ?_)
    · rw [up2_n _ _ (by omega), up2_n _ _ (by omega), up2_n _ _ (by omega), up2_n _ _ (by omega), up2_n _ _ (by omega)]
    · rcases (show w = 0 ∨ w = 1 ∨ w = 2 ∨ w = 3 by omega) with rfl | rfl | rfl | rfl
      · rw [up2_n _ _ (by omega), up2_n _ _ (by omega), up2_n _ _ (by omega), up2_n _ _ (by omega), show 0 + 12 + 4 * A.st.pl.length + 0 = 12 + 4 * A.st.pl.length by omega, up2_s]
      · rw [up2_n _ _ (by omega), up2_n _ _ (by omega), up2_n _ _ (by omega), show 0 + 12 + 4 * A.st.pl.length + 1 = 12 + 4 * A.st.pl.length + 1 by omega, up2_s]
      · rw [up2_n _ _ (by omega), up2_n _ _ (by omega), show 0 + 12 + 4 * A.st.pl.length + 2 = 12 + 4 * A.st.pl.length + 2 by omega, up2_s]
      · rw [up2_n _ _ (by omega), show 0 + 12 + 4 * A.st.pl.length + 3 = 12 + 4 * A.st.pl.length + 3 by omega, up2_s]
  rcases m with y | y | y
  · obtain ⟨p1, p2, p3⟩ := hok
    have z1 := hs.sz y.1
    refine w_aload_n dX7_plays_0 rfl ?_
    refine u_callV dX7_plays_1 lk_X7_387 [] rfl (m_keeps E l hR hA h) (g_recv.obj (ci := 7) rfl (by decide) (show 79 < N by omega)) rfl ⟨⟨by decide, by decide⟩, by decide, by decide⟩ (lb rfl) (fun I1 h_1 => ?_)
    obtain ⟨k1, k2⟩ := h_1
    refine w_bipush (v := 12) dX7_plays_4 (by decide) ?_
    refine w_iconst (v := 4) dX7_plays_6 (by decide) ?_
    refine w_aload_n dX7_plays_7 rfl ?_
    refine x_getr (ci := 7) (k := 0) (a := 80) dX7_plays_8 rfl (by decide) (by decide) (by omega) fl_X7_7 (Or.inr ⟨_, rfl⟩) hR.2.1 ?_
    refine w_bipush (v := 11) dX7_plays_11 (by decide) ?_
    refine x_iald (j := 11) dX7_plays_13 rfl (by omega) rfl (show 11 < 172 by decide) ?_
    rw [show I1 80 11 = nI A.st.pl.length from k2.1.2.2.2.2.1]
    refine w_imul dX7_plays_14 ?_
    refine w_st (show _ = [.int (nI (4 * A.st.pl.length)), .int 12] from by rw [← pk_mul]; rfl) ?_
    refine w_iadd dX7_plays_15 ?_
    refine w_st (show _ = [.int (nI (12 + 4 * A.st.pl.length))] from by rw [← nI_add]; rfl) ?_
    refine w_istore dX7_plays_16 (by decide) rfl ?_
    refine w_aload_n dX7_plays_18 rfl ?_
    refine x_getr (ci := 7) (k := 0) (a := 80) dX7_plays_19 rfl (by decide) (by decide) (by omega) fl_X7_7 (Or.inr ⟨_, rfl⟩) hR.2.1 ?_
    refine w_iload dX7_plays_22 rfl ?_
    refine w_iload_n dX7_plays_24 rfl ?_
    refine x_iast (j := 12 + 4 * A.st.pl.length) dX7_plays_25 rfl (by omega) rfl (show 12 + 4 * A.st.pl.length < 172 by omega) ?_
    refine w_aload_n dX7_plays_26 rfl ?_
    refine x_getr (ci := 7) (k := 0) (a := 80) dX7_plays_27 rfl (by decide) (by decide) (by omega) fl_X7_7 (Or.inr ⟨_, rfl⟩) hR.2.1 ?_
    refine w_iload dX7_plays_30 rfl ?_
    refine w_iconst (v := 1) dX7_plays_32 (by decide) ?_
    refine w_iadd dX7_plays_33 ?_
    rw [nI_1]
    refine w_iload_n dX7_plays_34 rfl ?_
    refine x_iast (j := 12 + 4 * A.st.pl.length + 1) dX7_plays_35 rfl (by omega) rfl (show 12 + 4 * A.st.pl.length + 1 < 172 by omega) ?_
    refine w_aload_n dX7_plays_36 rfl ?_
    refine x_getr (ci := 7) (k := 0) (a := 80) dX7_plays_37 rfl (by decide) (by decide) (by omega) fl_X7_7 (Or.inr ⟨_, rfl⟩) hR.2.1 ?_
    refine w_iload dX7_plays_40 rfl ?_
    refine w_iconst (v := 2) dX7_plays_42 (by decide) ?_
    refine w_iadd dX7_plays_43 ?_
    rw [show nI (12 + 4 * A.st.pl.length) + (2 : Int32) = nI (12 + 4 * A.st.pl.length + 2) from by rw [show (2 : Int32) = nI 2 from rfl, nI_add]]
    refine w_iload_n dX7_plays_44 rfl ?_
    refine x_iast (j := 12 + 4 * A.st.pl.length + 2) dX7_plays_45 rfl (by omega) rfl (show 12 + 4 * A.st.pl.length + 2 < 172 by omega) ?_
    refine w_aload_n dX7_plays_46 rfl ?_
    refine x_getr (ci := 7) (k := 0) (a := 80) dX7_plays_47 rfl (by decide) (by decide) (by omega) fl_X7_7 (Or.inr ⟨_, rfl⟩) hR.2.1 ?_
    refine w_iload dX7_plays_50 rfl ?_
    refine w_iconst (v := 3) dX7_plays_52 (by decide) ?_
    refine w_iadd dX7_plays_53 ?_
    rw [show nI (12 + 4 * A.st.pl.length) + (3 : Int32) = nI (12 + 4 * A.st.pl.length + 3) from by rw [show (3 : Int32) = nI 3 from rfl, nI_add]]
    refine w_iload dX7_plays_54 rfl ?_
    refine x_iast (j := 12 + 4 * A.st.pl.length + 3) dX7_plays_56 rfl (by omega) rfl (show 12 + 4 * A.st.pl.length + 3 < 172 by omega) ?_
    refine w_aload_n dX7_plays_57 rfl ?_
    refine x_getr (ci := 7) (k := 0) (a := 80) dX7_plays_58 rfl (by decide) (by decide) (by omega) fl_X7_7 (Or.inr ⟨_, rfl⟩) hR.2.1 ?_
    refine w_bipush (v := 11) dX7_plays_61 (by decide) ?_
    refine w_dup2 dX7_plays_63 rfl rfl ?_
    refine x_iald (j := 11) dX7_plays_64 rfl (by omega) rfl (show 11 < 172 by decide) ?_
    refine w_st (show _ = [.int (nI A.st.pl.length), .int 11, .ref 80] from by rw [up2_n _ _ (by omega), up2_n _ _ (by omega), up2_n _ _ (by omega), up2_n _ _ (by omega), show I1 80 11 = nI A.st.pl.length from k2.1.2.2.2.2.1]) ?_
    refine w_iconst (v := 1) dX7_plays_65 (by decide) ?_
    refine w_iadd dX7_plays_66 ?_
    rw [nI_1]
    refine x_iast (j := 11) dX7_plays_67 rfl (by omega) rfl (show 11 < 172 by decide) ?_
    have hl9 := lg9 (Sum.inl y) I1 k2.1
    generalize hI9 : up2 (up2 (up2 (up2 (up2 I1 80 (12 + 4 * A.st.pl.length) _) 80 (12 + 4 * A.st.pl.length + 1) _) 80 (12 + 4 * A.st.pl.length + 2) _) 80 (12 + 4 * A.st.pl.length + 3) _) 80 11 (nI (A.st.pl.length + 1)) = I9
    have fr9 : frD I1 I9 := (by rw [← hI9]; intro o ho; funext j; rw [up2_n _ _ (by simp [ho]), up2_n _ _ (by simp [ho]), up2_n _ _ (by simp [ho]), up2_n _ _ (by simp [ho]), up2_n _ _ (by simp [ho])])
    have sl9 : slM I9 80 0 (A.st.log (Sum.inl y)) := (by rw [← hI9]; exact hl9)
    refine w_iload_n dX7_plays_68 rfl ?_
    refine w_iconst (v := 2) dX7_plays_69 (by decide) ?_
    refine w_icmp_ge (tgt := 86) dX7_plays_70 (by decide) (fun c_70 => absurd c_70 ((show ¬ (2 : Int32) ≤ 0 from by decide))) (fun c_70 => ?_)
    refine w_aload_n dX7_plays_73 rfl ?_
    refine x_getr (ci := 7) (k := 0) (a := 80) dX7_plays_74 rfl (by decide) (by decide) (by omega) fl_X7_7 (Or.inr ⟨_, rfl⟩) hR.2.1 ?_
    refine w_iconst (v := 5) dX7_plays_77 (by decide) ?_
    refine w_iload_n dX7_plays_78 rfl ?_
    refine w_iadd dX7_plays_79 ?_
    refine w_st (show _ = [.int (nI (5 + y.1)), .ref 80] from by rw [← nI_add]; rfl) ?_
    refine w_dup2 dX7_plays_80 rfl rfl ?_
    refine x_iald (j := 5 + y.1) dX7_plays_81 rfl (by omega) rfl (show 5 + y.1 < 172 by omega) ?_
    rw [show I9 80 (5 + y.1) = nI (A.st.sz y.1) from by have := (sl9.2.1 y.1 p1).2; rw [show 0 + 5 + y.1 = 5 + y.1 by omega] at this; exact this]
    refine w_iload dX7_plays_82 rfl ?_
    refine w_isub dX7_plays_84 ?_
    refine w_st (show _ = [.int (nI (A.st.sz y.1 - y.2)), .int (nI (5 + y.1)), .ref 80] from congrArg (fun v => [Value.int v, Value.int (nI (5 + y.1)), Value.ref 80]) (pk_sub p3)) ?_
    refine x_iast (j := 5 + y.1) dX7_plays_85 rfl (by omega) rfl (show 5 + y.1 < 172 by omega) ?_
    refine w_iload_n dX7_plays_86 rfl ?_
    refine w_iconst (v := 1) dX7_plays_87 (by decide) ?_
    refine w_icmp_ne (tgt := 104) dX7_plays_88 (by decide) (fun c_88 => ?_) (fun c_88 => absurd c_88 ((show ¬ (0 : Int32) = 1 from by decide)))
    refine w_iload_n dX7_plays_104 rfl ?_
    refine w_iconst (v := 2) dX7_plays_105 (by decide) ?_
    refine w_icmp_ne (tgt := 120) dX7_plays_106 (by decide) (fun c_106 => ?_) (fun c_106 => absurd c_106 ((show ¬ (0 : Int32) = 2 from by decide)))
    refine w_vret dX7_plays_120 rfl ⟨_, rfl, ⟨k1.o.trans (fr9.up _ _).o, k2.dat (fr9.up _ _) (by have := sl9.put l4 p1 (A.st.sz y.1 - y.2); rw [show 0 + 5 + y.1 = 5 + y.1 by omega] at this; exact this)⟩, rfl⟩ (by decide) (by decide)
  · obtain ⟨p1, p2, p3, p4, p5⟩ := hok
    have z1 := hs.sz y.1
    have z2 := hs.sz y.2.1
    refine w_aload_n dX7_plays_0 rfl ?_
    refine u_callV dX7_plays_1 lk_X7_387 [] rfl (m_keeps E l hR hA h) (g_recv.obj (ci := 7) rfl (by decide) (show 79 < N by omega)) rfl ⟨⟨by decide, by decide⟩, by decide, by decide⟩ (lb rfl) (fun I1 h_1 => ?_)
    obtain ⟨k1, k2⟩ := h_1
    refine w_bipush (v := 12) dX7_plays_4 (by decide) ?_
    refine w_iconst (v := 4) dX7_plays_6 (by decide) ?_
    refine w_aload_n dX7_plays_7 rfl ?_
    refine x_getr (ci := 7) (k := 0) (a := 80) dX7_plays_8 rfl (by decide) (by decide) (by omega) fl_X7_7 (Or.inr ⟨_, rfl⟩) hR.2.1 ?_
    refine w_bipush (v := 11) dX7_plays_11 (by decide) ?_
    refine x_iald (j := 11) dX7_plays_13 rfl (by omega) rfl (show 11 < 172 by decide) ?_
    rw [show I1 80 11 = nI A.st.pl.length from k2.1.2.2.2.2.1]
    refine w_imul dX7_plays_14 ?_
    refine w_st (show _ = [.int (nI (4 * A.st.pl.length)), .int 12] from by rw [← pk_mul]; rfl) ?_
    refine w_iadd dX7_plays_15 ?_
    refine w_st (show _ = [.int (nI (12 + 4 * A.st.pl.length))] from by rw [← nI_add]; rfl) ?_
    refine w_istore dX7_plays_16 (by decide) rfl ?_
    refine w_aload_n dX7_plays_18 rfl ?_
    refine x_getr (ci := 7) (k := 0) (a := 80) dX7_plays_19 rfl (by decide) (by decide) (by omega) fl_X7_7 (Or.inr ⟨_, rfl⟩) hR.2.1 ?_
    refine w_iload dX7_plays_22 rfl ?_
    refine w_iload_n dX7_plays_24 rfl ?_
    refine x_iast (j := 12 + 4 * A.st.pl.length) dX7_plays_25 rfl (by omega) rfl (show 12 + 4 * A.st.pl.length < 172 by omega) ?_
    refine w_aload_n dX7_plays_26 rfl ?_
    refine x_getr (ci := 7) (k := 0) (a := 80) dX7_plays_27 rfl (by decide) (by decide) (by omega) fl_X7_7 (Or.inr ⟨_, rfl⟩) hR.2.1 ?_
    refine w_iload dX7_plays_30 rfl ?_
    refine w_iconst (v := 1) dX7_plays_32 (by decide) ?_
    refine w_iadd dX7_plays_33 ?_
    rw [nI_1]
    refine w_iload_n dX7_plays_34 rfl ?_
    refine x_iast (j := 12 + 4 * A.st.pl.length + 1) dX7_plays_35 rfl (by omega) rfl (show 12 + 4 * A.st.pl.length + 1 < 172 by omega) ?_
    refine w_aload_n dX7_plays_36 rfl ?_
    refine x_getr (ci := 7) (k := 0) (a := 80) dX7_plays_37 rfl (by decide) (by decide) (by omega) fl_X7_7 (Or.inr ⟨_, rfl⟩) hR.2.1 ?_
    refine w_iload dX7_plays_40 rfl ?_
    refine w_iconst (v := 2) dX7_plays_42 (by decide) ?_
    refine w_iadd dX7_plays_43 ?_
    rw [show nI (12 + 4 * A.st.pl.length) + (2 : Int32) = nI (12 + 4 * A.st.pl.length + 2) from by rw [show (2 : Int32) = nI 2 from rfl, nI_add]]
    refine w_iload_n dX7_plays_44 rfl ?_
    refine x_iast (j := 12 + 4 * A.st.pl.length + 2) dX7_plays_45 rfl (by omega) rfl (show 12 + 4 * A.st.pl.length + 2 < 172 by omega) ?_
    refine w_aload_n dX7_plays_46 rfl ?_
    refine x_getr (ci := 7) (k := 0) (a := 80) dX7_plays_47 rfl (by decide) (by decide) (by omega) fl_X7_7 (Or.inr ⟨_, rfl⟩) hR.2.1 ?_
    refine w_iload dX7_plays_50 rfl ?_
    refine w_iconst (v := 3) dX7_plays_52 (by decide) ?_
    refine w_iadd dX7_plays_53 ?_
    rw [show nI (12 + 4 * A.st.pl.length) + (3 : Int32) = nI (12 + 4 * A.st.pl.length + 3) from by rw [show (3 : Int32) = nI 3 from rfl, nI_add]]
    refine w_iload dX7_plays_54 rfl ?_
    refine x_iast (j := 12 + 4 * A.st.pl.length + 3) dX7_plays_56 rfl (by omega) rfl (show 12 + 4 * A.st.pl.length + 3 < 172 by omega) ?_
    refine w_aload_n dX7_plays_57 rfl ?_
    refine x_getr (ci := 7) (k := 0) (a := 80) dX7_plays_58 rfl (by decide) (by decide) (by omega) fl_X7_7 (Or.inr ⟨_, rfl⟩) hR.2.1 ?_
    refine w_bipush (v := 11) dX7_plays_61 (by decide) ?_
    refine w_dup2 dX7_plays_63 rfl rfl ?_
    refine x_iald (j := 11) dX7_plays_64 rfl (by omega) rfl (show 11 < 172 by decide) ?_
    refine w_st (show _ = [.int (nI A.st.pl.length), .int 11, .ref 80] from by rw [up2_n _ _ (by omega), up2_n _ _ (by omega), up2_n _ _ (by omega), up2_n _ _ (by omega), show I1 80 11 = nI A.st.pl.length from k2.1.2.2.2.2.1]) ?_
    refine w_iconst (v := 1) dX7_plays_65 (by decide) ?_
    refine w_iadd dX7_plays_66 ?_
    rw [nI_1]
    refine x_iast (j := 11) dX7_plays_67 rfl (by omega) rfl (show 11 < 172 by decide) ?_
    have hl9 := lg9 (Sum.inr (Sum.inl y)) I1 k2.1
    generalize hI9 : up2 (up2 (up2 (up2 (up2 I1 80 (12 + 4 * A.st.pl.length) _) 80 (12 + 4 * A.st.pl.length + 1) _) 80 (12 + 4 * A.st.pl.length + 2) _) 80 (12 + 4 * A.st.pl.length + 3) _) 80 11 (nI (A.st.pl.length + 1)) = I9
    have fr9 : frD I1 I9 := (by rw [← hI9]; intro o ho; funext j; rw [up2_n _ _ (by simp [ho]), up2_n _ _ (by simp [ho]), up2_n _ _ (by simp [ho]), up2_n _ _ (by simp [ho]), up2_n _ _ (by simp [ho])])
    have sl9 : slM I9 80 0 (A.st.log (Sum.inr (Sum.inl y))) := (by rw [← hI9]; exact hl9)
    refine w_iload_n dX7_plays_68 rfl ?_
    refine w_iconst (v := 2) dX7_plays_69 (by decide) ?_
    refine w_icmp_ge (tgt := 86) dX7_plays_70 (by decide) (fun c_70 => absurd c_70 ((show ¬ (2 : Int32) ≤ 1 from by decide))) (fun c_70 => ?_)
    refine w_aload_n dX7_plays_73 rfl ?_
    refine x_getr (ci := 7) (k := 0) (a := 80) dX7_plays_74 rfl (by decide) (by decide) (by omega) fl_X7_7 (Or.inr ⟨_, rfl⟩) hR.2.1 ?_
    refine w_iconst (v := 5) dX7_plays_77 (by decide) ?_
    refine w_iload_n dX7_plays_78 rfl ?_
    refine w_iadd dX7_plays_79 ?_
    refine w_st (show _ = [.int (nI (5 + y.1)), .ref 80] from by rw [← nI_add]; rfl) ?_
    refine w_dup2 dX7_plays_80 rfl rfl ?_
    refine x_iald (j := 5 + y.1) dX7_plays_81 rfl (by omega) rfl (show 5 + y.1 < 172 by omega) ?_
    rw [show I9 80 (5 + y.1) = nI (A.st.sz y.1) from by have := (sl9.2.1 y.1 (show y.1 < A.st.hs.length by omega)).2; rw [show 0 + 5 + y.1 = 5 + y.1 by omega] at this; exact this]
    refine w_iload dX7_plays_82 rfl ?_
    refine w_isub dX7_plays_84 ?_
    refine w_st (show _ = [.int (nI (A.st.sz y.1 - y.2.2)), .int (nI (5 + y.1)), .ref 80] from congrArg (fun v => [Value.int v, Value.int (nI (5 + y.1)), Value.ref 80]) (pk_sub p4)) ?_
    refine x_iast (j := 5 + y.1) dX7_plays_85 rfl (by omega) rfl (show 5 + y.1 < 172 by omega) ?_
    refine w_iload_n dX7_plays_86 rfl ?_
    refine w_iconst (v := 1) dX7_plays_87 (by decide) ?_
    refine w_icmp_ne (tgt := 104) dX7_plays_88 (by decide) (fun c_88 => absurd ((show (1 : Int32) = 1 from rfl)) c_88) (fun c_88 => ?_)
    refine w_aload_n dX7_plays_91 rfl ?_
    refine x_getr (ci := 7) (k := 0) (a := 80) dX7_plays_92 rfl (by decide) (by decide) (by omega) fl_X7_7 (Or.inr ⟨_, rfl⟩) hR.2.1 ?_
    refine w_iconst (v := 5) dX7_plays_95 (by decide) ?_
    refine w_iload_n dX7_plays_96 rfl ?_
    refine w_iadd dX7_plays_97 ?_
    refine w_st (show _ = [.int (nI (5 + y.2.1)), .ref 80] from by rw [← nI_add]; rfl) ?_
    refine w_dup2 dX7_plays_98 rfl rfl ?_
    refine x_iald (j := 5 + y.2.1) dX7_plays_99 rfl (by omega) rfl (show 5 + y.2.1 < 172 by omega) ?_
    rw [up2_n _ _ (by omega), show I9 80 (5 + y.2.1) = nI (A.st.sz y.2.1) from by have := (sl9.2.1 y.2.1 p2).2; rw [show 0 + 5 + y.2.1 = 5 + y.2.1 by omega] at this; exact this]
    refine w_iload dX7_plays_100 rfl ?_
    refine w_isub dX7_plays_102 ?_
    refine w_st (show _ = [.int (nI (A.st.sz y.2.1 - y.2.2)), .int (nI (5 + y.2.1)), .ref 80] from congrArg (fun v => [Value.int v, Value.int (nI (5 + y.2.1)), Value.ref 80]) (pk_sub p5)) ?_
    refine x_iast (j := 5 + y.2.1) dX7_plays_103 rfl (by omega) rfl (show 5 + y.2.1 < 172 by omega) ?_
    refine w_iload_n dX7_plays_104 rfl ?_
    refine w_iconst (v := 2) dX7_plays_105 (by decide) ?_
    refine w_icmp_ne (tgt := 120) dX7_plays_106 (by decide) (fun c_106 => ?_) (fun c_106 => absurd c_106 ((show ¬ (1 : Int32) = 2 from by decide)))
    refine w_vret dX7_plays_120 rfl ⟨_, rfl, ⟨k1.o.trans ((fr9.up _ _).up _ _).o, k2.dat ((fr9.up _ _).up _ _) (by have := (sl9.put l4 (show y.1 < (A.st.log (.inr (.inl y))).hs.length from (show y.1 < A.st.hs.length by omega)) (A.st.sz y.1 - y.2.2)).put (by rw [put_len]; exact l4) (k := y.2.1) (by rw [put_len]; exact p2) (A.st.sz y.2.1 - y.2.2); rw [show 0 + 5 + y.1 = 5 + y.1 by omega, show 0 + 5 + y.2.1 = 5 + y.2.1 by omega] at this; exact this)⟩, rfl⟩ (by decide) (by decide)
  · have p1 : 1 ≤ A.st.ps := hok
    have p3 := hs.2.2.1
    refine w_aload_n dX7_plays_0 rfl ?_
    refine u_callV dX7_plays_1 lk_X7_387 [] rfl (m_keeps E l hR hA h) (g_recv.obj (ci := 7) rfl (by decide) (show 79 < N by omega)) rfl ⟨⟨by decide, by decide⟩, by decide, by decide⟩ (lb rfl) (fun I1 h_1 => ?_)
    obtain ⟨k1, k2⟩ := h_1
    refine w_bipush (v := 12) dX7_plays_4 (by decide) ?_
    refine w_iconst (v := 4) dX7_plays_6 (by decide) ?_
    refine w_aload_n dX7_plays_7 rfl ?_
    refine x_getr (ci := 7) (k := 0) (a := 80) dX7_plays_8 rfl (by decide) (by decide) (by omega) fl_X7_7 (Or.inr ⟨_, rfl⟩) hR.2.1 ?_
    refine w_bipush (v := 11) dX7_plays_11 (by decide) ?_
    refine x_iald (j := 11) dX7_plays_13 rfl (by omega) rfl (show 11 < 172 by decide) ?_
    rw [show I1 80 11 = nI A.st.pl.length from k2.1.2.2.2.2.1]
    refine w_imul dX7_plays_14 ?_
    refine w_st (show _ = [.int (nI (4 * A.st.pl.length)), .int 12] from by rw [← pk_mul]; rfl) ?_
    refine w_iadd dX7_plays_15 ?_
    refine w_st (show _ = [.int (nI (12 + 4 * A.st.pl.length))] from by rw [← nI_add]; rfl) ?_
    refine w_istore dX7_plays_16 (by decide) rfl ?_
    refine w_aload_n dX7_plays_18 rfl ?_
    refine x_getr (ci := 7) (k := 0) (a := 80) dX7_plays_19 rfl (by decide) (by decide) (by omega) fl_X7_7 (Or.inr ⟨_, rfl⟩) hR.2.1 ?_
    refine w_iload dX7_plays_22 rfl ?_
    refine w_iload_n dX7_plays_24 rfl ?_
    refine x_iast (j := 12 + 4 * A.st.pl.length) dX7_plays_25 rfl (by omega) rfl (show 12 + 4 * A.st.pl.length < 172 by omega) ?_
    refine w_aload_n dX7_plays_26 rfl ?_
    refine x_getr (ci := 7) (k := 0) (a := 80) dX7_plays_27 rfl (by decide) (by decide) (by omega) fl_X7_7 (Or.inr ⟨_, rfl⟩) hR.2.1 ?_
    refine w_iload dX7_plays_30 rfl ?_
    refine w_iconst (v := 1) dX7_plays_32 (by decide) ?_
    refine w_iadd dX7_plays_33 ?_
    rw [nI_1]
    refine w_iload_n dX7_plays_34 rfl ?_
    refine x_iast (j := 12 + 4 * A.st.pl.length + 1) dX7_plays_35 rfl (by omega) rfl (show 12 + 4 * A.st.pl.length + 1 < 172 by omega) ?_
    refine w_aload_n dX7_plays_36 rfl ?_
    refine x_getr (ci := 7) (k := 0) (a := 80) dX7_plays_37 rfl (by decide) (by decide) (by omega) fl_X7_7 (Or.inr ⟨_, rfl⟩) hR.2.1 ?_
    refine w_iload dX7_plays_40 rfl ?_
    refine w_iconst (v := 2) dX7_plays_42 (by decide) ?_
    refine w_iadd dX7_plays_43 ?_
    rw [show nI (12 + 4 * A.st.pl.length) + (2 : Int32) = nI (12 + 4 * A.st.pl.length + 2) from by rw [show (2 : Int32) = nI 2 from rfl, nI_add]]
    refine w_iload_n dX7_plays_44 rfl ?_
    refine x_iast (j := 12 + 4 * A.st.pl.length + 2) dX7_plays_45 rfl (by omega) rfl (show 12 + 4 * A.st.pl.length + 2 < 172 by omega) ?_
    refine w_aload_n dX7_plays_46 rfl ?_
    refine x_getr (ci := 7) (k := 0) (a := 80) dX7_plays_47 rfl (by decide) (by decide) (by omega) fl_X7_7 (Or.inr ⟨_, rfl⟩) hR.2.1 ?_
    refine w_iload dX7_plays_50 rfl ?_
    refine w_iconst (v := 3) dX7_plays_52 (by decide) ?_
    refine w_iadd dX7_plays_53 ?_
    rw [show nI (12 + 4 * A.st.pl.length) + (3 : Int32) = nI (12 + 4 * A.st.pl.length + 3) from by rw [show (3 : Int32) = nI 3 from rfl, nI_add]]
    refine w_iload dX7_plays_54 rfl ?_
    refine x_iast (j := 12 + 4 * A.st.pl.length + 3) dX7_plays_56 rfl (by omega) rfl (show 12 + 4 * A.st.pl.length + 3 < 172 by omega) ?_
    refine w_aload_n dX7_plays_57 rfl ?_
    refine x_getr (ci := 7) (k := 0) (a := 80) dX7_plays_58 rfl (by decide) (by decide) (by omega) fl_X7_7 (Or.inr ⟨_, rfl⟩) hR.2.1 ?_
    refine w_bipush (v := 11) dX7_plays_61 (by decide) ?_
    refine w_dup2 dX7_plays_63 rfl rfl ?_
    refine x_iald (j := 11) dX7_plays_64 rfl (by omega) rfl (show 11 < 172 by decide) ?_
    refine w_st (show _ = [.int (nI A.st.pl.length), .int 11, .ref 80] from by rw [up2_n _ _ (by omega), up2_n _ _ (by omega), up2_n _ _ (by omega), up2_n _ _ (by omega), show I1 80 11 = nI A.st.pl.length from k2.1.2.2.2.2.1]) ?_
    refine w_iconst (v := 1) dX7_plays_65 (by decide) ?_
    refine w_iadd dX7_plays_66 ?_
    rw [nI_1]
    refine x_iast (j := 11) dX7_plays_67 rfl (by omega) rfl (show 11 < 172 by decide) ?_
    have hl9 := lg9 (Sum.inr (Sum.inr y)) I1 k2.1
    generalize hI9 : up2 (up2 (up2 (up2 (up2 I1 80 (12 + 4 * A.st.pl.length) _) 80 (12 + 4 * A.st.pl.length + 1) _) 80 (12 + 4 * A.st.pl.length + 2) _) 80 (12 + 4 * A.st.pl.length + 3) _) 80 11 (nI (A.st.pl.length + 1)) = I9
    have fr9 : frD I1 I9 := (by rw [← hI9]; intro o ho; funext j; rw [up2_n _ _ (by simp [ho]), up2_n _ _ (by simp [ho]), up2_n _ _ (by simp [ho]), up2_n _ _ (by simp [ho]), up2_n _ _ (by simp [ho])])
    have sl9 : slM I9 80 0 (A.st.log (Sum.inr (Sum.inr y))) := (by rw [← hI9]; exact hl9)
    refine w_iload_n dX7_plays_68 rfl ?_
    refine w_iconst (v := 2) dX7_plays_69 (by decide) ?_
    refine w_icmp_ge (tgt := 86) dX7_plays_70 (by decide) (fun c_70 => ?_) (fun c_70 => absurd ((show (2 : Int32) ≤ 2 from by decide)) c_70)
    refine w_iload_n dX7_plays_86 rfl ?_
    refine w_iconst (v := 1) dX7_plays_87 (by decide) ?_
    refine w_icmp_ne (tgt := 104) dX7_plays_88 (by decide) (fun c_88 => ?_) (fun c_88 => absurd c_88 ((show ¬ (2 : Int32) = 1 from by decide)))
    refine w_iload_n dX7_plays_104 rfl ?_
    refine w_iconst (v := 2) dX7_plays_105 (by decide) ?_
    refine w_icmp_ne (tgt := 120) dX7_plays_106 (by decide) (fun c_106 => absurd ((show (2 : Int32) = 2 from rfl)) c_106) (fun c_106 => ?_)
    refine w_aload_n dX7_plays_109 rfl ?_
    refine x_getr (ci := 7) (k := 0) (a := 80) dX7_plays_110 rfl (by decide) (by decide) (by omega) fl_X7_7 (Or.inr ⟨_, rfl⟩) hR.2.1 ?_
    refine w_bipush (v := 9) dX7_plays_113 (by decide) ?_
    refine w_dup2 dX7_plays_115 rfl rfl ?_
    refine x_iald (j := 9) dX7_plays_116 rfl (by omega) rfl (show 9 < 172 by decide) ?_
    rw [show I9 80 9 = nI A.st.ps from sl9.2.2.1]
    refine w_iconst (v := 1) dX7_plays_117 (by decide) ?_
    refine w_isub dX7_plays_118 ?_
    refine w_st (show _ = [.int (nI (A.st.ps - 1)), .int 9, .ref 80] from by rw [show (1 : Int32) = nI 1 from rfl, pk_sub p1]) ?_
    refine x_iast (j := 9) dX7_plays_119 rfl (by omega) rfl (show 9 < 172 by decide) ?_
    refine w_vret dX7_plays_120 rfl ⟨_, rfl, ⟨k1.o.trans (fr9.up _ _).o, k2.dat (fr9.up _ _) (sl9.pas l4 (A.st.ps - 1))⟩, rfl⟩ (by decide) (by decide)
end MV1
