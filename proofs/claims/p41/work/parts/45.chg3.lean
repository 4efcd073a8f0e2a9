/-! HeapGames: takeBoth, pass, settings -/
theorem ps_set {s : St} {p : Nat} : St.pos (s.hs, p, s.mi, s.pl) = pk4 s.zs + 2 ^ 16 * p := rfl
def bothOK (A : AS) (k o : Nat) (a : Nat) : Prop := k ≠ o ∧ 1 ≤ a ∧ a ≤ 15 ∧ A.ru.2.2.testBit a = true ∧ a ≤ A.st.sz k ∧ a ≤ A.st.sz o
theorem i_1m {x : Int32} {m : Nat} (hm : m < 1000) (h1 : ¬ x < 1) (h2 : ¬ nI m < x) : ∃ a, 1 ≤ a ∧ a ≤ m ∧ x = nI a := i_1n (by omega) h1 (by
  rw [Int32.lt_iff_toInt_lt] at h2
  rw [Int32.le_iff_toInt_le]
  omega)
theorem min_max {k o : Nat} (h : k ≠ o) : min k o < max k o := by omega
theorem both_code {k o a : Nat} (hk : k < 4) (ho : o < 4) (hne : k ≠ o) (ha : a ≤ 15) : s_with (s_with 0 (nI k) (nI a)) (nI o) (nI a) = nI (Mv.both (min k o) (max k o) a).code := by
  rw [show s_with 0 (nI k) (nI a) = nI (setN 0 k a) from with_nI (x := 0) hk (by omega), with_nI ho (by omega), set_two hk ho hne (by omega)]
  rfl
theorem saS_cong {s t : St} : ∀ {n : Nat}, (∀ k, k < n → s.sz k = t.sz k) → saS s n = saS t n
  | 0, _ => rfl
  | n + 1, h => by rw [saS, saS, h n (by omega), saS_cong (n := n) (fun k hk => h k (by omega))]
section FL
variable (E : GE) (l : Launch)
variable {I : Nat → Nat → Int32} {J : Nat → Nat → Int64} {R : Nat → Nat → Option Nat} {D : Nat → Nat → UInt64} {N : Nat} {ex : Bool} {sw : Bool} {A : AS} {n s : Nat}
set_option maxRecDepth 100000 in
theorem c_pass (hl : lk R N sw) (h : rC I J sw A n) (hn5 : n < 100000) (hp : 1 ≤ A.st.ps) (hm : 0 < (mvs A.cf A.st.pos).length) (hf : A.st.pl.length < 40) : g_Ct E l mX6_pass 6 123 0 0 [.ref 0] (I, J, R, D, N, ex) (g_ri (fun x I' => x = nI (A.st.ps - 1) ∧ frM I I' ∧ rC I' J sw (A.rec (A.st.play Mv.pass)) (n + 1)) J R D N ex) := by
  refine g_Ct.of (by decide +kernel) (lb rfl) ?_
  have hN := hl.2.2.2.2.2.2.2.2.2.2.2.2.2.2.2.2
  have hg := hl.1
  have hgm := gm_b sw
  have hok := h.2.2.2.2.1
  have h3 := hok.2.2.1
  have h81 := mvs_81 (cf_ok (mi := A.st.mi) h.2.1 (hok.rs h.1.2)) A.st.pos
  have h81' : (mvs A.cf A.st.pos).length ≤ 81 := h81
  have hpl : playOK A.st Mv.pass := hp
  obtain ⟨p1, p2, _⟩ := play_ok hok hpl hf
  refine w_aload_n dX6_pass_0 rfl ?_
  refine x_getr (ci := 6) (k := 0) (a := gm sw) dX6_pass_1 rfl (by decide) (by decide) (by omega) fl_X6_12 (Or.inl ⟨_, rfl⟩) hl.2.2.2.2.1 ?_
  refine x_getr (ci := 0) (k := 3) (a := gm sw + 2) dX6_pass_4 hg.1 (by decide) (by decide) (by omega) fl_X6_85 (Or.inl ⟨_, rfl⟩) hg.2.2.2.2.1 ?_
  refine x_geti (ci := 4) (k := 2) dX6_pass_7 hg.2.2.2.2.2.1.1 (by decide) (by decide) (by omega) fl_X6_92 rfl ?_
  rw [h.2.2.2.2.2.1.2.2.1]
  refine y_callS dX6_pass_10 lk_X6_95 [.int (nI A.st.pos)] rfl (c_passesOf E l _ _) rfl ⟨⟨by decide, by decide⟩, by decide, by decide⟩ (lb rfl) ?_
  rw [passes_nI (by have := hok.pos; omega), hok.ps]
  refine w_if_eq (tgt := 23) dX6_pass_13 (by decide) (fun c_13 => absurd c_13 ((nI_ne0 (by omega) (by omega)))) (fun c_13 => ?_)
  refine w_aload_n dX6_pass_16 rfl ?_
  refine v_callV dX6_pass_17 lk_X6_121 [] rfl (c_listMoves E l hl h hn5) (g_recv.obj (ci := 6) rfl (by decide) (show 0 < N by omega)) rfl ⟨⟨by decide, by decide⟩, by decide, by decide⟩ (lb rfl) (fun x_17 I' h_17 => ?_)
  obtain ⟨e1, e2, e3, e4⟩ := h_17
  rw [e1]
  have hC := h.pr e3 e4
  refine w_if_ne (tgt := 34) dX6_pass_20 (by decide) (fun c_20 => ?_) (fun c_20 => absurd c_20 ((nI_ne0 (by omega) (by omega))))
  refine w_aload_n dX6_pass_34 rfl ?_
  refine y_callV dX6_pass_35 lk_X6_238 [] rfl (c_isRecordFull E l hl hC) (g_recv.obj (ci := 6) rfl (by decide) (show 0 < N by omega)) rfl ⟨⟨by decide, by decide⟩, by decide, by decide⟩ (lb rfl) ?_
  rw [decide_eq_false (show ¬ A.st.pl.length = 40 by omega)]
  refine w_if_eq (tgt := 43) dX6_pass_38 (by decide) (fun c_38 => ?_) (fun c_38 => absurd ((by decide)) c_38)
  refine w_aload_n dX6_pass_43 rfl ?_
  refine w_ldcw dX6_pass_44 kc_X6_259 ?_
  refine u_callV dX6_pass_47 lk_X6_242 [.int 65536] rfl (c_playMove E l hl hC hpl hf) (g_recv.obj (ci := 6) rfl (by decide) (show 0 < N by omega)) rfl ⟨⟨by decide, by decide⟩, by decide, by decide⟩ (lb rfl) (fun I2 h_47 => ?_)
  obtain ⟨g1, g2⟩ := h_47
  refine w_aload_n dX6_pass_50 rfl ?_
  refine x_getr (ci := 6) (k := 0) (a := gm sw) dX6_pass_51 rfl (by decide) (by decide) (by omega) fl_X6_12 (Or.inl ⟨_, rfl⟩) hl.2.2.2.2.1 ?_
  refine x_getr (ci := 0) (k := 3) (a := gm sw + 2) dX6_pass_54 hg.1 (by decide) (by decide) (by omega) fl_X6_85 (Or.inl ⟨_, rfl⟩) hg.2.2.2.2.1 ?_
  refine x_geti (ci := 4) (k := 2) dX6_pass_57 hg.2.2.2.2.2.1.1 (by decide) (by decide) (by omega) fl_X6_92 rfl ?_
  rw [g2.2.2.2.2.2.1.2.2.1]
  refine y_callS dX6_pass_60 lk_X6_95 [.int (nI (A.st.play Mv.pass).pos)] rfl (c_passesOf E l _ _) rfl ⟨⟨by decide, by decide⟩, by decide, by decide⟩ (lb rfl) ?_
  rw [passes_nI (by have := p1.pos; omega), p1.ps]
  refine w_iret dX6_pass_63 rfl rfl ⟨_, _, rfl, ⟨rfl, e3.m.trans g1, g2⟩, rfl⟩ (by decide) (by decide)
set_option maxRecDepth 100000 in
theorem c_pass_full (hl : lk R N sw) (h : rC I J sw A n) (hn5 : n < 100000) (hp : 1 ≤ A.st.ps) (hm : 0 < (mvs A.cf A.st.pos).length) (hf : A.st.pl.length = 40) : g_Ct E l mX6_pass 6 123 0 0 [.ref 0] (I, J, R, D, N, ex) (g_ri (fun x I' => x = -1 ∧ frM I I' ∧ rC I' J sw A (n + 1)) J R D N ex) := by
  refine g_Ct.of (by decide +kernel) (lb rfl) ?_
  have hN := hl.2.2.2.2.2.2.2.2.2.2.2.2.2.2.2.2
  have hg := hl.1
  have hgm := gm_b sw
  have hok := h.2.2.2.2.1
  have h3 := hok.2.2.1
  have h81 := mvs_81 (cf_ok (mi := A.st.mi) h.2.1 (hok.rs h.1.2)) A.st.pos
  have h81' : (mvs A.cf A.st.pos).length ≤ 81 := h81
  refine w_aload_n dX6_pass_0 rfl ?_
  refine x_getr (ci := 6) (k := 0) (a := gm sw) dX6_pass_1 rfl (by decide) (by decide) (by omega) fl_X6_12 (Or.inl ⟨_, rfl⟩) hl.2.2.2.2.1 ?_
  refine x_getr (ci := 0) (k := 3) (a := gm sw + 2) dX6_pass_4 hg.1 (by decide) (by decide) (by omega) fl_X6_85 (Or.inl ⟨_, rfl⟩) hg.2.2.2.2.1 ?_
  refine x_geti (ci := 4) (k := 2) dX6_pass_7 hg.2.2.2.2.2.1.1 (by decide) (by decide) (by omega) fl_X6_92 rfl ?_
  rw [h.2.2.2.2.2.1.2.2.1]
  refine y_callS dX6_pass_10 lk_X6_95 [.int (nI A.st.pos)] rfl (c_passesOf E l _ _) rfl ⟨⟨by decide, by decide⟩, by decide, by decide⟩ (lb rfl) ?_
  rw [passes_nI (by have := hok.pos; omega), hok.ps]
  refine w_if_eq (tgt := 23) dX6_pass_13 (by decide) (fun c_13 => absurd c_13 ((nI_ne0 (by omega) (by omega)))) (fun c_13 => ?_)
  refine w_aload_n dX6_pass_16 rfl ?_
  refine v_callV dX6_pass_17 lk_X6_121 [] rfl (c_listMoves E l hl h hn5) (g_recv.obj (ci := 6) rfl (by decide) (show 0 < N by omega)) rfl ⟨⟨by decide, by decide⟩, by decide, by decide⟩ (lb rfl) (fun x_17 I' h_17 => ?_)
  obtain ⟨e1, e2, e3, e4⟩ := h_17
  rw [e1]
  have hC := h.pr e3 e4
  refine w_if_ne (tgt := 34) dX6_pass_20 (by decide) (fun c_20 => ?_) (fun c_20 => absurd c_20 ((nI_ne0 (by omega) (by omega))))
  refine w_aload_n dX6_pass_34 rfl ?_
  refine y_callV dX6_pass_35 lk_X6_238 [] rfl (c_isRecordFull E l hl hC) (g_recv.obj (ci := 6) rfl (by decide) (show 0 < N by omega)) rfl ⟨⟨by decide, by decide⟩, by decide, by decide⟩ (lb rfl) ?_
  rw [decide_eq_true hf]
  refine w_if_eq (tgt := 43) dX6_pass_38 (by decide) (fun c_38 => absurd c_38 ((by decide))) (fun c_38 => ?_)
  refine w_iconst (v := (-1)) dX6_pass_41 (by decide) ?_
  refine w_iret dX6_pass_42 rfl rfl ⟨_, _, rfl, ⟨rfl, e3.m, hC⟩, rfl⟩ (by decide) (by decide)
set_option maxRecDepth 100000 in
theorem c_pass_x (hl : lk R N sw) (h : rC I J sw A n) (hn5 : n < 100000) (hp : ¬ (1 ≤ A.st.ps ∧ 0 < (mvs A.cf A.st.pos).length)) : g_Ct E l mX6_pass 6 123 1 6 [.ref 0] (I, J, R, D, N, ex) (g_rx "java/lang/IllegalStateException" (fun I' => frM I I' ∧ rC I' J sw A (n + 1)) J R D N) := by
  refine g_Ct.of (by decide +kernel) (lb rfl) ?_
  have hN := hl.2.2.2.2.2.2.2.2.2.2.2.2.2.2.2.2
  have hg := hl.1
  have hgm := gm_b sw
  have hok := h.2.2.2.2.1
  have h3 := hok.2.2.1
  have h81 := mvs_81 (cf_ok (mi := A.st.mi) h.2.1 (hok.rs h.1.2)) A.st.pos
  have h81' : (mvs A.cf A.st.pos).length ≤ 81 := h81
  refine w_aload_n dX6_pass_0 rfl ?_
  refine x_getr (ci := 6) (k := 0) (a := gm sw) dX6_pass_1 rfl (by decide) (by decide) (by omega) fl_X6_12 (Or.inl ⟨_, rfl⟩) hl.2.2.2.2.1 ?_
  refine x_getr (ci := 0) (k := 3) (a := gm sw + 2) dX6_pass_4 hg.1 (by decide) (by decide) (by omega) fl_X6_85 (Or.inl ⟨_, rfl⟩) hg.2.2.2.2.1 ?_
  refine x_geti (ci := 4) (k := 2) dX6_pass_7 hg.2.2.2.2.2.1.1 (by decide) (by decide) (by omega) fl_X6_92 rfl ?_
  rw [h.2.2.2.2.2.1.2.2.1]
  refine y_callS dX6_pass_10 lk_X6_95 [.int (nI A.st.pos)] rfl (c_passesOf E l _ _) rfl ⟨⟨by decide, by decide⟩, by decide, by decide⟩ (lb rfl) ?_
  rw [passes_nI (by have := hok.pos; omega), hok.ps]
  refine w_if_eq (tgt := 23) dX6_pass_13 (by decide) (fun c_13 => ?_) (fun c_13 => ?_)
  · refine w_throwW (X := "java/lang/IllegalStateException") (tx := "the pass is not a move") rfl rfl (by decide +kernel) (by decide +kernel) dX6_pass_23 dX6_pass_26 dX6_pass_27 dX6_pass_30 dX6_pass_33 (by decide) (lb rfl) (by decide) (by decide) (by decide) (by decide) (by first | exact ⟨_, rfl, ⟨e3.m, hC⟩, rfl⟩ | exact ⟨_, rfl, ⟨frM.refl I, h.mono (by omega)⟩, rfl⟩)
  · refine w_aload_n dX6_pass_16 rfl ?_
    refine v_callV dX6_pass_17 lk_X6_121 [] rfl (c_listMoves E l hl h hn5) (g_recv.obj (ci := 6) rfl (by decide) (show 0 < N by omega)) rfl ⟨⟨by decide, by decide⟩, by decide, by decide⟩ (lb rfl) (fun x_17 I' h_17 => ?_)
    obtain ⟨e1, e2, e3, e4⟩ := h_17
    rw [e1]
    have hC := h.pr e3 e4
    refine w_if_ne (tgt := 34) dX6_pass_20 (by decide) (fun c_20 => absurd ((by have h1 : ¬ A.st.ps = 0 := (fun q => c_13 (by rw [q]; rfl)); rw [show (mvs A.cf A.st.pos).length = 0 by omega]; rfl)) c_20) (fun c_20 => ?_)
    refine w_throwW (X := "java/lang/IllegalStateException") (tx := "the pass is not a move") rfl rfl (by decide +kernel) (by decide +kernel) dX6_pass_23 dX6_pass_26 dX6_pass_27 dX6_pass_30 dX6_pass_33 (by decide) (lb rfl) (by decide) (by decide) (by decide) (by decide) (by first | exact ⟨_, rfl, ⟨e3.m, hC⟩, rfl⟩ | exact ⟨_, rfl, ⟨frM.refl I, h.mono (by omega)⟩, rfl⟩)
end FL
