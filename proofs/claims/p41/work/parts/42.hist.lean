/-! HeapGames: played, size; HeapGames$History -/
theorem i_hi {z : Int32} {m : Nat} (hm : m < 1000) (h : z < 0 ∨ ¬ z < nI (m + 1)) (h0 : ¬ z < 0) : ¬ z ≤ nI m := by
  rcases h with y | y
  · exact absurd y h0
  · intro q
    apply y
    rw [Int32.le_iff_toInt_le, nI_toInt (by omega)] at q
    rw [Int32.lt_iff_toInt_lt, nI_toInt (by omega)]
    omega
def frC (g : Nat) (I I' : Nat → Nat → Int32) : Prop := ∀ o, o ≠ g + 2 → o ≠ g + 3 → (o < 51 ∨ 72 < o) → I' o = I o
def frH (I I' : Nat → Nat → Int32) : Prop := ∀ o, (o < 51 ∨ 72 < o) → I' o = I o
def AS.up (A : AS) (s : St) (h : List St) : AS := (A.ru, A.nr, s, h, A.sn, A.tx, A.tl)
theorem stC.cp {I I' : Nat → Nat → Int32} {s t : Nat} {x : St} (h : stC I t x) (hp : x.pl.length ≤ 40) (h1 : ∀ k, k < 5 → I' s k = I t k) (h2 : ∀ j, j < 40 → I' (s + 1) j = I (t + 1) j) : stC I' s x := by
  obtain ⟨a0, a1, a2, a3, a4, a5⟩ := h
  exact ⟨by rw [h1 0 (by omega)]; exact a0, by rw [h1 1 (by omega)]; exact a1, by rw [h1 2 (by omega)]; exact a2, by rw [h1 3 (by omega)]; exact a3, by rw [h1 4 (by omega)]; exact a4, fun i hi => by rw [h2 i (by omega)]; exact a5 i hi⟩
theorem rC.chg {I I' : Nat → Nat → Int32} {J : Nat → Nat → Int64} {sw : Bool} {A : AS} {n : Nat} (h : rC I J sw A n) {s : St} {hi : List St} (f : frC (gm sw) I I') (ho : stOK A.nr s) (hs : stC I' (gm sw + 2) s) (hh : hiC I' A.nr hi) : rC I' J sw (A.up s hi) n := by
  have hg := gm_b sw
  have hd := dg_b sw
  obtain ⟨h1, h2, h3, h4, h5, h6, h7, h8, h9, h10, h11⟩ := h
  have e : ∀ o, o ≠ gm sw + 2 → o ≠ gm sw + 3 → (o < 51 ∨ 72 < o) → I' o = I o := f
  refine ⟨⟨by rw [e _ (by omega) (by omega) (by omega)]; exact h1.1, h1.2⟩, h2, ⟨by rw [e _ (by omega) (by omega) (by omega)]; exact h3.1, fun k hk => ?_⟩, fun k hk m hm => ?_, ho, hs, fun k hk => ?_, ?_, hh, fun k hk => ?_, ?_⟩
  · rw [e _ (by omega) (by omega) (by omega)]; exact h3.2 k hk
  · have hk6 : k < A.nr := hk
    rw [e _ (by omega) (by omega) (by omega)]; exact h4 k hk m hm
  · rw [e _ (by omega) (by omega) (by omega)]; exact h7 k hk
  · obtain ⟨st, T, q1, q2, q3, q4⟩ := h8
    have e47 := e 47 (by omega) (by omega) (by omega)
    have e48 := e 48 (by omega) (by omega) (by omega)
    have e49 := e 49 (by omega) (by omega) (by omega)
    refine ⟨st, T, q1, by rw [e47]; exact q2, fun p hp => by rw [e48]; exact q3 p hp, ?_⟩
    rcases q4 with q4 | ⟨rs, mi, r1, r2, r3, r4⟩
    · exact Or.inl (by rw [e47]; exact q4)
    · refine Or.inr ⟨rs, mi, r1, by rw [e47]; exact r2, ?_, ?_⟩
      · obtain ⟨s1, ⟨t, s2, s3⟩, s4, s5⟩ := r3
        exact ⟨by rw [e47]; exact s1, ⟨t, by rw [e47]; exact s2, s3⟩, by rw [e47]; exact s4, fun h hh n hn => by rw [e49]; exact s5 h hh n hn⟩
      · obtain ⟨⟨s1, s2, s3, s4⟩, s5⟩ := r4
        exact ⟨⟨by rw [e47]; exact s1, s2, s3, fun p hp => by rw [e48]; exact s4 p hp⟩, s5⟩
  · rw [e 74 (by omega) (by omega) (by omega)]
    exact ⟨(h10 k hk).1, fun s hs => ⟨((h10 k hk).2 s hs).1, ((h10 k hk).2 s hs).2.fr (e _ (by omega) (by omega) (by omega)) (e _ (by omega) (by omega) (by omega))⟩⟩
  · unfold txC
    rw [e 23 (by omega) (by omega) (by omega), e 24 (by omega) (by omega) (by omega)]
    exact h11
section FI
variable (E : GE) (l : Launch)
variable {I : Nat → Nat → Int32} {J : Nat → Nat → Int64} {R : Nat → Nat → Option Nat} {D : Nat → Nat → UInt64} {N : Nat} {ex : Bool} {sw : Bool} {A : AS} {n s : Nat}
set_option maxRecDepth 100000 in
theorem c_size (hl : lk R N sw) (h : rC I J sw A n) (hn5 : n < 100000) {w : Nat} (hw : w < 10) : g_Ct E l mX6_size 6 132 0 0 [.ref 0, .int (nI w)] (I, J, R, D, N, ex) (g_ri (fun x I' => x = szS A w ∧ frS I I' ∧ sP I' A.ru (n + 1)) J R D N ex) := by
  refine g_Ct.of (by decide +kernel) (lb rfl) ?_
  have hN := hl.2.2.2.2.2.2.2.2.2.2.2.2.2.2.2.2
  have hg := hl.1
  have hgm := gm_b sw
  have hst := h.2.2.2.2.2.1
  have hok := h.2.2.2.2.1
  have hfin : frS I I ∧ sP I A.ru (n + 1) := ⟨frS.refl I, h.2.2.2.2.2.2.2.1.mono (by omega)⟩
  refine w_aload_n dX6_size_0 rfl ?_
  refine x_getr (ci := 6) (k := 0) (a := gm sw) dX6_size_1 rfl (by decide) (by decide) (by omega) fl_X6_12 (Or.inl ⟨_, rfl⟩) hl.2.2.2.2.1 ?_
  refine x_getr (ci := 0) (k := 3) (a := gm sw + 2) dX6_size_4 hg.1 (by decide) (by decide) (by omega) fl_X6_85 (Or.inl ⟨_, rfl⟩) hg.2.2.2.2.1 ?_
  refine w_astore_n dX6_size_7 (by decide) rfl ?_
  refine w_iload_n dX6_size_8 rfl ?_
  rcases (show w = 0 ∨ w = 1 ∨ w = 2 ∨ w = 3 ∨ w = 4 ∨ w = 5 ∨ w = 6 ∨ w = 7 ∨ w = 8 ∨ w = 9 by omega) with rfl | rfl | rfl | rfl | rfl | rfl | rfl | rfl | rfl | rfl
  · refine w_tblIn (off := 55) (tgt := 64) dX6_size_9 (by decide) (by decide) (by decide) (by decide) ?_
    refine w_aload_n dX6_size_64 rfl ?_
    refine x_getr (ci := 6) (k := 0) (a := gm sw) dX6_size_65 rfl (by decide) (by decide) (by omega) fl_X6_12 (Or.inl ⟨_, rfl⟩) hl.2.2.2.2.1 ?_
    refine x_geti (ci := 0) (k := 1) dX6_size_68 hg.1 (by decide) (by decide) (by omega) fl_X6_82 rfl ?_
    refine w_iret dX6_size_71 rfl rfl ⟨_, _, rfl, ⟨h.1.1, hfin⟩, rfl⟩ (by decide) (by decide)
  · refine w_tblIn (off := 63) (tgt := 72) dX6_size_9 (by decide) (by decide) (by decide) (by decide) ?_
    refine w_aload_n dX6_size_72 rfl ?_
    refine x_geti (ci := 4) (k := 0) dX6_size_73 hg.2.2.2.2.2.1.1 (by decide) (by decide) (by omega) fl_X6_89 rfl ?_
    refine w_iret dX6_size_76 rfl rfl ⟨_, _, rfl, ⟨hst.1, hfin⟩, rfl⟩ (by decide) (by decide)
  · refine w_tblIn (off := 68) (tgt := 77) dX6_size_9 (by decide) (by decide) (by decide) (by decide) ?_
    refine w_aload_n dX6_size_77 rfl ?_
    refine x_geti (ci := 4) (k := 2) dX6_size_78 hg.2.2.2.2.2.1.1 (by decide) (by decide) (by omega) fl_X6_92 rfl ?_
    rw [hst.2.2.1]
    refine y_callS dX6_size_81 lk_X6_95 [.int (nI A.st.pos)] rfl (c_passesOf E l _ _) rfl ⟨⟨by decide, by decide⟩, by decide, by decide⟩ (lb rfl) ?_
    rw [passes_nI (by have := hok.pos; omega), hok.ps]
    refine w_iret dX6_size_84 rfl rfl ⟨_, _, rfl, ⟨rfl, hfin⟩, rfl⟩ (by decide) (by decide)
  · refine w_tblIn (off := 76) (tgt := 85) dX6_size_9 (by decide) (by decide) (by decide) (by decide) ?_
    refine w_aload_n dX6_size_85 rfl ?_
    refine x_getr (ci := 6) (k := 0) (a := gm sw) dX6_size_86 rfl (by decide) (by decide) (by omega) fl_X6_12 (Or.inl ⟨_, rfl⟩) hl.2.2.2.2.1 ?_
    refine x_geti (ci := 0) (k := 2) dX6_size_89 hg.1 (by decide) (by decide) (by omega) fl_X6_99 rfl ?_
    refine w_iret dX6_size_92 rfl rfl ⟨_, _, rfl, ⟨h.2.2.1.1, hfin⟩, rfl⟩ (by decide) (by decide)
  · refine w_tblIn (off := 84) (tgt := 93) dX6_size_9 (by decide) (by decide) (by decide) (by decide) ?_
    refine w_aload_n dX6_size_93 rfl ?_
    refine x_getz (ci := 4) (k := 3) dX6_size_94 hg.2.2.2.2.2.1.1 (by decide) (by decide) (by omega) fl_X6_102 rfl ?_
    rw [hst.2.2.2.1]
    refine w_if_eq (tgt := 104) dX6_size_97 (by decide) (fun c_97 => ?_) (fun c_97 => ?_)
    · refine w_iconst (v := 0) dX6_size_104 (by decide) ?_
      refine w_iret dX6_size_105 rfl rfl (by first | exact ⟨_, _, rfl, ⟨by show _ = b2i A.st.mi; rw [b2i_0.mp c_97]; rfl, hfin⟩, rfl⟩ | exact ⟨_, _, rfl, ⟨by show _ = b2i A.st.mi; rw [b2i_ne.mp c_97]; rfl, hfin⟩, rfl⟩) (by decide) (by decide)
    · refine w_iconst (v := 1) dX6_size_100 (by decide) ?_
      refine w_goto (tgt := 105) dX6_size_101 (by decide) ?_
      refine w_iret dX6_size_105 rfl rfl (by first | exact ⟨_, _, rfl, ⟨by show _ = b2i A.st.mi; rw [b2i_0.mp c_97]; rfl, hfin⟩, rfl⟩ | exact ⟨_, _, rfl, ⟨by show _ = b2i A.st.mi; rw [b2i_ne.mp c_97]; rfl, hfin⟩, rfl⟩) (by decide) (by decide)
  · refine w_tblIn (off := 97) (tgt := 106) dX6_size_9 (by decide) (by decide) (by decide) (by decide) ?_
    refine w_aload_n dX6_size_106 rfl ?_
    refine x_getr (ci := 6) (k := 1) (a := 23) dX6_size_107 rfl (by decide) (by decide) (by omega) fl_X6_19 (Or.inl ⟨_, rfl⟩) hl.2.2.2.2.2.1 ?_
    refine x_geti (ci := 5) (k := 1) dX6_size_110 rfl (by decide) (by decide) (by omega) fl_X6_48 rfl ?_
    refine w_iret dX6_size_113 rfl rfl ⟨_, _, rfl, ⟨h.2.2.2.2.2.2.2.2.2.2.1, hfin⟩, rfl⟩ (by decide) (by decide)
  · refine w_tblIn (off := 105) (tgt := 114) dX6_size_9 (by decide) (by decide) (by decide) (by decide) ?_
    refine w_aload_n dX6_size_114 rfl ?_
    refine x_geti (ci := 4) (k := 4) dX6_size_115 hg.2.2.2.2.2.1.1 (by decide) (by decide) (by omega) fl_X6_106 rfl ?_
    refine w_iret dX6_size_118 rfl rfl ⟨_, _, rfl, ⟨hst.2.2.2.2.1, hfin⟩, rfl⟩ (by decide) (by decide)
  · refine w_tblIn (off := 110) (tgt := 119) dX6_size_9 (by decide) (by decide) (by decide) (by decide) ?_
    refine w_aload_n dX6_size_119 rfl ?_
    refine y_callV dX6_size_120 lk_X6_109 [] rfl (c_playerToMove E l hl hst hok) (g_recv.obj (ci := 6) rfl (by decide) (show 0 < N by omega)) rfl ⟨⟨by decide, by decide⟩, by decide, by decide⟩ (lb rfl) ?_
    refine w_iret dX6_size_123 rfl rfl ⟨_, _, rfl, ⟨rfl, hfin⟩, rfl⟩ (by decide) (by decide)
  · refine w_tblIn (off := 115) (tgt := 124) dX6_size_9 (by decide) (by decide) (by decide) (by decide) ?_
    refine w_aload_n dX6_size_124 rfl ?_
    refine v_callV dX6_size_125 lk_X6_113 [] rfl (c_winner E l hl h hn5) (g_recv.obj (ci := 6) rfl (by decide) (show 0 < N by omega)) rfl ⟨⟨by decide, by decide⟩, by decide, by decide⟩ (lb rfl) (fun x_125 I' h_125 => ?_)
    obtain ⟨e1, e2, e3⟩ := h_125
    refine w_iret dX6_size_128 rfl rfl ⟨_, _, rfl, ⟨e1, e2, e3.s (hok.rs h.1.2)⟩, rfl⟩ (by decide) (by decide)
  · refine w_tblIn (off := 120) (tgt := 129) dX6_size_9 (by decide) (by decide) (by decide) (by decide) ?_
    refine w_aload_n dX6_size_129 rfl ?_
    refine x_getr (ci := 6) (k := 3) (a := 51) dX6_size_130 rfl (by decide) (by decide) (by omega) fl_X6_33 (Or.inl ⟨_, rfl⟩) hl.2.2.2.2.2.2.2.1 ?_
    refine x_geti (ci := 1) (k := 2) dX6_size_133 rfl (by decide) (by decide) (by omega) fl_X6_116 rfl ?_
    refine w_iret dX6_size_136 rfl rfl ⟨_, _, rfl, ⟨h.2.2.2.2.2.2.2.2.1.2.1, hfin⟩, rfl⟩ (by decide) (by decide)
set_option maxRecDepth 100000 in
theorem c_stateAt (hh : isH R N) {i : Nat} (hi : i < 10) : g_Ct E l mX1_stateAt 1 21 0 0 [.ref 51, .int (nI i)] (I, J, R, D, N, ex) (g_is (some (.ref (53 + 2 * i))) (I, J, R, D, N, ex)) := by
  refine g_Ct.of (by decide +kernel) (lb rfl) ?_
  have hN := hh.1
  refine w_aload_n dX1_stateAt_0 rfl ?_
  refine x_getr (ci := 1) (k := 0) (a := 52) dX1_stateAt_1 rfl (by decide) (by decide) (by omega) fl_X1_11 (Or.inr ⟨_, rfl⟩) hh.2.1 ?_
  refine w_iconst (v := 0) dX1_stateAt_4 (by decide) ?_
  refine w_iload_n dX1_stateAt_5 rfl ?_
  refine w_bipush (v := 9) dX1_stateAt_6 (by decide) ?_
  refine w_mmin dX1_stateAt_8 lk_X1_33.2.2.1 (by decide) (lb rfl) (by decide) (by decide) ?_
  rw [show (if (9 : Int32) < nI i then 9 else nI i) = nI i from mm_min (n := 9) (by omega) (by omega)]
  refine w_mmax dX1_stateAt_11 lk_X1_39.2.2.1 (by decide) (lb rfl) (by decide) (by decide) ?_
  rw [mm_max0 (by omega)]
  refine x_aald14 (j := i) dX1_stateAt_14 rfl (by omega) rfl (show i < 10 from hi) (hh.2.2 i hi).1 ?_
  refine w_aret dX1_stateAt_15 rfl (Or.inl ⟨_, rfl⟩) ⟨rfl, rfl⟩ (by decide) (by decide)
set_option maxRecDepth 100000 in
theorem c_remember (hh : isH R N) (hs : isS R N s) (hs51 : s + 1 < 51) {nr : Nat} {hi : List St} {x : St} (hc : hiC I nr hi) (hx : stC I s x) (ho : stOK nr x) : g_Ct E l mX1_remember 2 81 0 0 [.ref 51, .ref s] (I, J, R, D, N, ex) (g_rv (fun I' => frH I I' ∧ hiC I' nr ((x :: hi).take 10)) J R D N ex) := by
  refine g_Ct.of (by decide +kernel) (lb rfl) ?_
  have hN := hh.1
  obtain ⟨k1, k2, nx, k3, k4, k5⟩ := hc
  have hd := (hh.2.2 nx k3).2
  have hne : 53 + 2 * nx ≠ s := by omega
  refine w_aload_n dX1_remember_0 rfl ?_
  refine w_aload_n dX1_remember_1 rfl ?_
  refine x_geti (ci := 1) (k := 1) dX1_remember_2 rfl (by decide) (by decide) (by omega) fl_X1_17 rfl ?_
  rw [k4]
  refine y_callV dX1_remember_5 lk_X1_25 [.int (nI nx)] rfl (c_stateAt E l hh k3) (g_recv.obj (ci := 1) rfl (by decide) (show 51 < N by omega)) rfl ⟨⟨by decide, by decide⟩, by decide, by decide⟩ (lb rfl) ?_
  refine w_aload_n dX1_remember_8 rfl ?_
  refine u_callV dX1_remember_9 lk_X1_29 [.ref s] rfl (c_copyFrom E l hd hs hne (by rw [hx.2.2.2.1]; exact b2i_01 _)) (g_recv.obj (ci := 4) hd.1 (by decide) (show 53 + 2 * nx < N by omega)) rfl ⟨⟨by decide, by decide⟩, by decide, by decide⟩ (lb rfl) (fun I' h_9 => ?_)
  obtain ⟨f1, f2, f3⟩ := h_9
  have e51 := f1 51 (by omega) (by omega)
  refine w_aload_n dX1_remember_12 rfl ?_
  refine w_aload_n dX1_remember_13 rfl ?_
  refine x_geti (ci := 1) (k := 1) dX1_remember_14 rfl (by decide) (by decide) (by omega) fl_X1_17 rfl ?_
  rw [show I' 51 1 = nI nx by rw [e51]; exact k4]
  refine w_iconst (v := 1) dX1_remember_17 (by decide) ?_
  refine w_iadd dX1_remember_18 ?_
  rw [nI_1]
  refine w_bipush (v := 10) dX1_remember_19 (by decide) ?_
  refine w_irem dX1_remember_21 (by decide) ?_
  rw [show (10 : Int32) = nI 10 from rfl, pk_rem (by omega) (by omega) (by omega)]
  refine x_puti (ci := 1) (k := 1) dX1_remember_22 rfl (by decide) (by decide) (by omega) fl_X1_17 rfl rfl ?_
  refine w_aload_n dX1_remember_25 rfl ?_
  refine w_aload_n dX1_remember_26 rfl ?_
  refine x_geti (ci := 1) (k := 2) dX1_remember_27 rfl (by decide) (by decide) (by omega) fl_X1_21 rfl ?_
  refine w_st (show _ = [.int (nI hi.length), .ref 51] from by rw [up2_n _ _ (by simp), e51, k2]) ?_
  refine w_iconst (v := 1) dX1_remember_30 (by decide) ?_
  refine w_iadd dX1_remember_31 ?_
  rw [nI_1]
  refine w_bipush (v := 10) dX1_remember_32 (by decide) ?_
  refine w_mmin dX1_remember_34 lk_X1_33.2.2.1 (by decide) (lb rfl) (by decide) (by decide) ?_
  refine w_st (show _ = [.int (nI (min (hi.length + 1) 10)), .ref 51] from by rw [← mm_min2 (a := hi.length + 1) (b := 10) (by omega) (by omega)]; rfl) ?_
  refine x_puti (ci := 1) (k := 2) dX1_remember_37 rfl (by decide) (by decide) (by omega) fl_X1_21 rfl rfl ?_
  refine w_vret dX1_remember_40 rfl ⟨_, rfl, ⟨fun o ho => by funext j; rw [up2_n _ _ (by omega), up2_n _ _ (by omega), f1 o (by omega) (by omega)], by rw [List.length_take]; omega, by rw [up2_s, List.length_take, List.length_cons, Nat.min_comm], (nx + 1) % 10, Nat.mod_lt _ (by decide), by rw [up2_n _ _ (by simp), up2_s], fun i hi9 => by have e2 : ∀ o, 53 ≤ o → up2 (up2 I' 51 1 (nI ((nx + 1) % 10))) 51 2 (nI (min (hi.length + 1) 10)) o = I' o := (fun o ho => by funext j; rw [up2_n _ _ (by omega), up2_n _ _ (by omega)]); rw [List.length_take, List.length_cons] at hi9; cases i with | zero => (refine ⟨ho, ?_⟩; rw [show ((nx + 1) % 10 + 9 - 0) % 10 = nx by omega]; exact stC.fr (stC.cp hx ho.2.2.2.1 f2 f3) (e2 _ (by omega)) (e2 _ (by omega))) | succ i => (have hi' : i < hi.length := (by omega); rw [List.getElem_take, List.getElem_cons_succ]; refine ⟨(k5 i hi').1, ?_⟩; rw [show ((nx + 1) % 10 + 9 - (i + 1)) % 10 = (nx + 9 - i) % 10 by omega]; exact (k5 i hi').2.fr ((e2 _ (by omega)).trans (f1 _ (by omega) (by omega))) ((e2 _ (by omega)).trans (f1 _ (by omega) (by omega))))⟩, rfl⟩ (by decide) (by decide)
end FI
