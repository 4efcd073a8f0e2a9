/-! HeapGames: move, lostWith, played, size -/
def mvA (A : AS) (i w : Nat) : Int32 := match (mvs A.cf A.st.pos)[i]? with
  | none => 0
  | some m => (match w with
    | 4 => nI (val A.cf (A.st.pos - m.code)).2.2
    | 5 => if (val A.cf (A.st.pos - m.code)).1 then 0 else 1
    | 6 => nI (val A.cf (A.st.pos - m.code)).2.1
    | w => deS m w)
def lwS (A : AS) (k : Nat) : Nat → Nat
  | 0 => 0
  | i + 1 => lwS A k i + if (val A.cf (setN A.st.pos k i)).1 then 0 else 2 ^ i
theorem lwS_lt (A : AS) (k : Nat) : ∀ i, lwS A k i < 2 ^ i
  | 0 => Nat.one_pos
  | i + 1 => by rw [lwS, Nat.pow_succ]; have := lwS_lt A k i; split <;> omega
def plA (A : AS) (i w : Nat) : Int32 := deS (A.st.pl.getD i Mv.pass) w
def szS (A : AS) (w : Nat) : Int32 := match w with
  | 0 => nI A.nr
  | 1 => nI A.st.hs.length
  | 2 => nI A.st.ps
  | 3 => nI A.ru.2.2
  | 4 => b2i A.st.mi
  | 5 => nI A.tl
  | 6 => nI A.st.pl.length
  | 7 => plS A
  | 8 => wiS A
  | _ => nI A.hi.length
theorem mvOK.W {c : Cf} (hm : c.m ≤ 4) {p : Nat} {x : Mv} (h : mvOK c p x) : mvW x := by
  rcases x with ⟨k, a⟩ | ⟨k, o, a⟩ | ⟨⟩
  · obtain ⟨h1, h2, h3, _⟩ : k < c.m ∧ 1 ≤ a ∧ a ≤ dig p k ∧ c.al k (dig p k) a = true := h
    have := dig_lt p k
    exact ⟨(by omega : k < 4), h2, (by omega : a ≤ 15)⟩
  · obtain ⟨h1, h2, h3, h4, h5, _⟩ : k < o ∧ o < c.m ∧ 1 ≤ a ∧ a ≤ dig p k ∧ a ≤ dig p o ∧ c.sh a = true := h
    have := dig_lt p k
    exact ⟨h1, (by omega : o < 4), h3, (by omega : a ≤ 15)⟩
  · trivial
theorem set_lec {x k a : Nat} (hk : k < 4) (ha : a < 16) : dig (setN x k a) k = a ∧ (∀ j, j < 4 → j ≠ k → dig (setN x k a) j = dig x j) ∧ setN x k a / 65536 = x / 65536 := by
  obtain ⟨A, B, C, D, q, hA, hB, hC, hD, rfl⟩ := mk5_ex x
  rcases (show k = 0 ∨ k = 1 ∨ k = 2 ∨ k = 3 by omega) with rfl | rfl | rfl | rfl
  · rw [show setN (mk5 A B C D q) 0 a = mk5 a B C D q by unfold setN mk5; simp; omega]
    refine ⟨mk5_0 ha, fun j hj hne => ?_, by rw [mk5_q ha hB hC hD, mk5_q hA hB hC hD]⟩
    rw [dig_mk ha hB hC hD hj, dig_mk hA hB hC hD hj, if_neg hne, if_neg hne]
  · rw [show setN (mk5 A B C D q) 1 a = mk5 A a C D q by unfold setN mk5; simp; omega]
    refine ⟨mk5_1 hA ha, fun j hj hne => ?_, by rw [mk5_q hA ha hC hD, mk5_q hA hB hC hD]⟩
    rw [dig_mk hA ha hC hD hj, dig_mk hA hB hC hD hj, if_neg hne, if_neg hne]
  · rw [show setN (mk5 A B C D q) 2 a = mk5 A B a D q by unfold setN mk5; simp; omega]
    refine ⟨mk5_2 hA hB ha, fun j hj hne => ?_, by rw [mk5_q hA hB ha hD, mk5_q hA hB hC hD]⟩
    rw [dig_mk hA hB ha hD hj, dig_mk hA hB hC hD hj, if_neg hne, if_neg hne]
  · rw [show setN (mk5 A B C D q) 3 a = mk5 A B C a q by unfold setN mk5; simp; omega]
    refine ⟨mk5_3 hA hB hC ha, fun j hj hne => ?_, by rw [mk5_q hA hB hC ha, mk5_q hA hB hC hD]⟩
    rw [dig_mk hA hB hC ha hj, dig_mk hA hB hC hD hj]
    rcases (show j = 0 ∨ j = 1 ∨ j = 2 by omega) with rfl | rfl | rfl <;> rfl
theorem set_lec2 {x k a b : Nat} (hk : k < 4) (ha : a ≤ b) (hb : b < 16) : lec (setN x k a) (setN x k b) := by
  obtain ⟨e1, e2, e3⟩ := set_lec (x := x) (a := a) hk (by omega)
  obtain ⟨f1, f2, f3⟩ := set_lec (x := x) (a := b) hk hb
  refine ⟨fun j hj => ?_, by rw [e3, f3]; exact Nat.le_refl _⟩
  rcases Decidable.em (j = k) with rfl | hne
  · rw [e1, f1]; exact ha
  · rw [e2 j hj hne, f2 j hj hne]; exact Nat.le_refl _
theorem lt_of_q {x y : Nat} (h : x / 65536 = y / 65536) (hy : y < 262144) : x < 262144 := by omega
section FH
variable (E : GE) (l : Launch)
variable {I : Nat → Nat → Int32} {J : Nat → Nat → Int64} {R : Nat → Nat → Option Nat} {D : Nat → Nat → UInt64} {N : Nat} {ex : Bool} {sw : Bool} {A : AS} {n : Nat}
theorem rC.pr {I I' : Nat → Nat → Int32} {J : Nat → Nat → Int64} {sw : Bool} {A : AS} {n m : Nat} (h : rC I J sw A n) (f : frS I I') (hr : prp I' A m) : rC I' J sw A m := h.sv f (hr.s (h.2.2.2.2.1.rs h.1.2))
set_option maxRecDepth 100000 in
theorem c_move (hl : lk R N sw) (h : rC I J sw A n) (hn5 : n < 99999) {i : Nat} (hi : i < (mvs A.cf A.st.pos).length) {w : Nat} (hw : w < 7) : g_Ct E l mX6_move 6 142 0 0 [.ref 0, .int (nI i), .int (nI w)] (I, J, R, D, N, ex) (g_ri (fun x I' => x = mvA A i w ∧ frS I I' ∧ prp I' A (n + 2)) J R D N ex) := by
  refine g_Ct.of (by decide +kernel) (lb rfl) ?_
  have hN := hl.2.2.2.2.2.2.2.2.2.2.2.2.2.2.2.2
  have hg := hl.1
  have hv := hl.2.2.1
  have hgm := gm_b sw
  have hok := h.2.2.2.2.1
  have hc : A.cf.ok := cf_ok h.2.1 (hok.rs h.1.2)
  have h81 := mvs_81 hc A.st.pos
  have hp18 := hok.pos
  have hOK := mem_mvs (List.getElem_mem hi)
  have hW := hOK.W hc.1
  have hwt := mv_wt hc.1 hOK
  have hA : ∀ w, mvA A i w = (match w with
    | 4 => nI (val A.cf (A.st.pos - ((mvs A.cf A.st.pos)[i]).code)).2.2
    | 5 => if (val A.cf (A.st.pos - ((mvs A.cf A.st.pos)[i]).code)).1 then 0 else 1
    | 6 => nI (val A.cf (A.st.pos - ((mvs A.cf A.st.pos)[i]).code)).2.1
    | w => deS (mvs A.cf A.st.pos)[i] w) := fun w => by unfold mvA; rw [List.getElem?_eq_getElem hi]
  by_cases hw3 : w ≤ 3
  · have hAw : mvA A i w = deS (mvs A.cf A.st.pos)[i] w := by
      rw [hA]
      rcases (show w = 0 ∨ w = 1 ∨ w = 2 ∨ w = 3 by omega) with rfl | rfl | rfl | rfl <;> rfl
    refine w_iload_n dX6_move_0 rfl ?_
    refine w_if_lt (tgt := 12) dX6_move_1 (by decide) (fun c_1 => absurd c_1 ((nI_pos (by omega)))) (fun c_1 => ?_)
    refine w_iload_n dX6_move_4 rfl ?_
    refine w_aload_n dX6_move_5 rfl ?_
    refine v_callV dX6_move_6 lk_X6_121 [] rfl (c_listMoves E l hl h (by omega)) (g_recv.obj (ci := 6) rfl (by decide) (show 0 < N by omega)) rfl ⟨⟨by decide, by decide⟩, by decide, by decide⟩ (lb rfl) (fun x_6 I' h_6 => ?_)
    obtain ⟨e1, e2, e3, T, st, e4, e5⟩ := h_6
    rw [e1]
    refine w_icmp_lt (tgt := 22) dX6_move_9 (by decide) (fun c_9 => ?_) (fun c_9 => absurd ((nI_lt (by omega) (by omega))) c_9)
    refine w_iload_n dX6_move_22 rfl ?_
    refine w_if_lt (tgt := 32) dX6_move_23 (by decide) (fun c_23 => absurd c_23 ((nI_pos (by omega)))) (fun c_23 => ?_)
    refine w_iload_n dX6_move_26 rfl ?_
    refine w_bipush (v := 6) dX6_move_27 (by decide) ?_
    refine w_icmp_le (tgt := 42) dX6_move_29 (by decide) (fun c_29 => ?_) (fun c_29 => absurd ((nI_le (a := w) (b := 6) (by omega) (by omega))) c_29)
    refine w_aload_n dX6_move_42 rfl ?_
    refine x_getr (ci := 6) (k := 2) (a := 47) dX6_move_43 rfl (by decide) (by decide) (by omega) fl_X6_26 (Or.inl ⟨_, rfl⟩) hl.2.2.2.2.2.2.1 ?_
    refine w_iload_n dX6_move_46 rfl ?_
    refine y_callV dX6_move_47 lk_X6_200 [.int (nI i)] rfl (c_nextAt E l hv (by omega)) (g_recv.obj (ci := 3) rfl (by decide) (show 47 < N by omega)) rfl ⟨⟨by decide, by decide⟩, by decide, by decide⟩ (lb rfl) ?_
    rw [e2.2 i hi]
    refine w_istore_n dX6_move_50 (by decide) rfl ?_
    refine w_iload_n dX6_move_51 rfl ?_
    refine w_iconst (v := 3) dX6_move_52 (by decide) ?_
    refine w_icmp_gt (tgt := 73) dX6_move_53 (by decide) (fun c_53 => absurd c_53 ((fun z => absurd (n_lt (a := 3) (b := w) z) (by omega)))) (fun c_53 => ?_)
    refine w_aload_n dX6_move_56 rfl ?_
    refine x_getr (ci := 6) (k := 0) (a := gm sw) dX6_move_57 rfl (by decide) (by decide) (by omega) fl_X6_12 (Or.inl ⟨_, rfl⟩) hl.2.2.2.2.1 ?_
    refine x_getr (ci := 0) (k := 3) (a := gm sw + 2) dX6_move_60 hg.1 (by decide) (by decide) (by omega) fl_X6_85 (Or.inl ⟨_, rfl⟩) hg.2.2.2.2.1 ?_
    refine x_geti (ci := 4) (k := 2) dX6_move_63 hg.2.2.2.2.2.1.1 (by decide) (by decide) (by omega) fl_X6_92 rfl ?_
    rw [e3 (gm sw + 2) (by omega) (by omega) (by omega) (by omega), h.2.2.2.2.2.1.2.2.1]
    refine w_iload_n dX6_move_66 rfl ?_
    refine w_isub dX6_move_67 ?_
    rw [pk_sub (by omega), show A.st.pos - (A.st.pos - ((mvs A.cf A.st.pos)[i]).code) = ((mvs A.cf A.st.pos)[i]).code by omega]
    refine w_iload_n dX6_move_68 rfl ?_
    refine y_callS dX6_move_69 lk_X6_203 [.int (nI ((mvs A.cf A.st.pos)[i]).code), .int (nI w)] rfl (c_describe E l _ hW (by omega)) rfl ⟨⟨by decide, by decide⟩, by decide, by decide⟩ (lb rfl) ?_
    refine w_iret dX6_move_72 rfl rfl ⟨_, _, rfl, ⟨hAw.symm, e3, T, st, by omega, e5⟩, rfl⟩ (by decide) (by decide)
  · refine w_iload_n dX6_move_0 rfl ?_
    refine w_if_lt (tgt := 12) dX6_move_1 (by decide) (fun c_1 => absurd c_1 ((nI_pos (by omega)))) (fun c_1 => ?_)
    refine w_iload_n dX6_move_4 rfl ?_
    refine w_aload_n dX6_move_5 rfl ?_
    refine v_callV dX6_move_6 lk_X6_121 [] rfl (c_listMoves E l hl h (by omega)) (g_recv.obj (ci := 6) rfl (by decide) (show 0 < N by omega)) rfl ⟨⟨by decide, by decide⟩, by decide, by decide⟩ (lb rfl) (fun x_6 I' h_6 => ?_)
    obtain ⟨e1, e2, e3, e4⟩ := h_6
    rw [e1]
    have hC := h.pr e3 e4
    refine w_icmp_lt (tgt := 22) dX6_move_9 (by decide) (fun c_9 => ?_) (fun c_9 => absurd ((nI_lt (by omega) (by omega))) c_9)
    refine w_iload_n dX6_move_22 rfl ?_
    refine w_if_lt (tgt := 32) dX6_move_23 (by decide) (fun c_23 => absurd c_23 ((nI_pos (by omega)))) (fun c_23 => ?_)
    refine w_iload_n dX6_move_26 rfl ?_
    refine w_bipush (v := 6) dX6_move_27 (by decide) ?_
    refine w_icmp_le (tgt := 42) dX6_move_29 (by decide) (fun c_29 => ?_) (fun c_29 => absurd ((nI_le (a := w) (b := 6) (by omega) (by omega))) c_29)
    refine w_aload_n dX6_move_42 rfl ?_
    refine x_getr (ci := 6) (k := 2) (a := 47) dX6_move_43 rfl (by decide) (by decide) (by omega) fl_X6_26 (Or.inl ⟨_, rfl⟩) hl.2.2.2.2.2.2.1 ?_
    refine w_iload_n dX6_move_46 rfl ?_
    refine y_callV dX6_move_47 lk_X6_200 [.int (nI i)] rfl (c_nextAt E l hv (by omega)) (g_recv.obj (ci := 3) rfl (by decide) (show 47 < N by omega)) rfl ⟨⟨by decide, by decide⟩, by decide, by decide⟩ (lb rfl) ?_
    rw [e2.2 i hi]
    refine w_istore_n dX6_move_50 (by decide) rfl ?_
    refine w_iload_n dX6_move_51 rfl ?_
    refine w_iconst (v := 3) dX6_move_52 (by decide) ?_
    refine w_icmp_gt (tgt := 73) dX6_move_53 (by decide) (fun c_53 => ?_) (fun c_53 => absurd ((nI_lt (a := 3) (b := w) (by omega) (by omega))) c_53)
    refine w_aload_n dX6_move_73 rfl ?_
    refine u_callV dX6_move_74 lk_X6_186 [] rfl (c_solvePosition E l hl hC (by omega)) (g_recv.obj (ci := 6) rfl (by decide) (show 0 < N by omega)) rfl ⟨⟨by decide, by decide⟩, by decide, by decide⟩ (lb rfl) (fun I2 h_74 => ?_)
    obtain ⟨f1, hr⟩ := h_74
    have hr' := hr
    obtain ⟨st, T, q1, q2, q3, q4, q5⟩ := hr'
    obtain ⟨a1, a2⟩ := rdy.opt hc hok.pos q4 q5 hi
    have hfin : frS I I2 ∧ prp I2 A (n + 2) := ⟨e3.trans f1, hr.p⟩
    refine w_iload_n dX6_move_77 rfl ?_
    rcases (show w = 4 ∨ w = 5 ∨ w = 6 by omega) with rfl | rfl | rfl
    · refine w_lookup (off := 26) (tgt := 104) dX6_move_78 (by decide) (by decide) (by decide) ?_
      refine w_aload_n dX6_move_104 rfl ?_
      refine x_getr (ci := 6) (k := 2) (a := 47) dX6_move_105 rfl (by decide) (by decide) (by omega) fl_X6_26 (Or.inl ⟨_, rfl⟩) hl.2.2.2.2.2.2.1 ?_
      refine w_iload_n dX6_move_108 rfl ?_
      refine y_callV dX6_move_109 lk_X6_189 [.int (nI (A.st.pos - ((mvs A.cf A.st.pos)[i]).code))] rfl (c_Sv_valueAt E l hv hc.1 q4 a1 a2) (g_recv.obj (ci := 3) rfl (by decide) (show 47 < N by omega)) rfl ⟨⟨by decide, by decide⟩, by decide, by decide⟩ (lb rfl) ?_
      refine w_iret dX6_move_112 rfl rfl ⟨_, _, rfl, ⟨(hA 4).symm, hfin⟩, rfl⟩ (by decide) (by decide)
    · refine w_lookup (off := 35) (tgt := 113) dX6_move_78 (by decide) (by decide) (by decide) ?_
      refine w_aload_n dX6_move_113 rfl ?_
      refine x_getr (ci := 6) (k := 2) (a := 47) dX6_move_114 rfl (by decide) (by decide) (by omega) fl_X6_26 (Or.inl ⟨_, rfl⟩) hl.2.2.2.2.2.2.1 ?_
      refine w_iload_n dX6_move_117 rfl ?_
      refine y_callV dX6_move_118 lk_X6_192 [.int (nI (A.st.pos - ((mvs A.cf A.st.pos)[i]).code))] rfl (c_Sv_isWonAt E l hv hc.1 q4 a1 a2) (g_recv.obj (ci := 3) rfl (by decide) (show 47 < N by omega)) rfl ⟨⟨by decide, by decide⟩, by decide, by decide⟩ (lb rfl) ?_
      refine w_if_eq (tgt := 128) dX6_move_121 (by decide) (fun c_121 => ?_) (fun c_121 => ?_)
      · refine w_iconst (v := 1) dX6_move_128 (by decide) ?_
        refine w_iret dX6_move_129 rfl rfl (by first | exact ⟨_, _, rfl, ⟨by rw [hA 5]; simp only []; rw [b2i_0.mp c_121]; rfl, hfin⟩, rfl⟩ | exact ⟨_, _, rfl, ⟨by rw [hA 5]; simp only []; rw [b2i_ne.mp c_121]; rfl, hfin⟩, rfl⟩) (by decide) (by decide)
      · refine w_iconst (v := 0) dX6_move_124 (by decide) ?_
        refine w_goto (tgt := 129) dX6_move_125 (by decide) ?_
        refine w_iret dX6_move_129 rfl rfl (by first | exact ⟨_, _, rfl, ⟨by rw [hA 5]; simp only []; rw [b2i_0.mp c_121]; rfl, hfin⟩, rfl⟩ | exact ⟨_, _, rfl, ⟨by rw [hA 5]; simp only []; rw [b2i_ne.mp c_121]; rfl, hfin⟩, rfl⟩) (by decide) (by decide)
    · refine w_lookup (off := 52) (tgt := 130) dX6_move_78 (by decide) (by decide) (by decide) ?_
      refine w_aload_n dX6_move_130 rfl ?_
      refine x_getr (ci := 6) (k := 2) (a := 47) dX6_move_131 rfl (by decide) (by decide) (by omega) fl_X6_26 (Or.inl ⟨_, rfl⟩) hl.2.2.2.2.2.2.1 ?_
      refine w_iload_n dX6_move_134 rfl ?_
      refine y_callV dX6_move_135 lk_X6_195 [.int (nI (A.st.pos - ((mvs A.cf A.st.pos)[i]).code))] rfl (c_Sv_lengthAt E l hv hc.1 q4 a1 a2) (g_recv.obj (ci := 3) rfl (by decide) (show 47 < N by omega)) rfl ⟨⟨by decide, by decide⟩, by decide, by decide⟩ (lb rfl) ?_
      refine w_iret dX6_move_138 rfl rfl ⟨_, _, rfl, ⟨(hA 6).symm, hfin⟩, rfl⟩ (by decide) (by decide)
set_option maxRecDepth 100000 in
theorem c_move_x0 {x : Int32} (hx : x < 0) (z : Int32) : g_Ct E l mX6_move 6 142 1 6 [.ref 0, .int x, .int z] (I, J, R, D, N, ex) (g_rx "java/lang/IndexOutOfBoundsException" (fun I' => I' = I) J R D N) := by
  refine g_Ct.of (by decide +kernel) (lb rfl) ?_
  refine w_iload_n dX6_move_0 rfl ?_
  refine w_if_lt (tgt := 12) dX6_move_1 (by decide) (fun c_1 => ?_) (fun c_1 => absurd (hx) c_1)
  refine w_throw (X := "java/lang/IndexOutOfBoundsException") (tx := "there is no such move") rfl rfl (by decide +kernel) (by decide +kernel) dX6_move_12 dX6_move_15 dX6_move_16 dX6_move_18 dX6_move_21 (by decide) (lb rfl) (by decide) (by decide) (by decide) (by decide) ⟨_, rfl, rfl, rfl⟩
set_option maxRecDepth 100000 in
theorem c_move_x1 (hl : lk R N sw) (h : rC I J sw A n) (hn5 : n < 99999) {x : Int32} (hx0 : ¬ x < 0) (hx : ¬ x < nI (mvs A.cf A.st.pos).length) (z : Int32) : g_Ct E l mX6_move 6 142 1 6 [.ref 0, .int x, .int z] (I, J, R, D, N, ex) (g_rx "java/lang/IndexOutOfBoundsException" (fun I' => frS I I' ∧ prp I' A (n + 1)) J R D N) := by
  refine g_Ct.of (by decide +kernel) (lb rfl) ?_
  have hN := hl.2.2.2.2.2.2.2.2.2.2.2.2.2.2.2.2
  refine w_iload_n dX6_move_0 rfl ?_
  refine w_if_lt (tgt := 12) dX6_move_1 (by decide) (fun c_1 => absurd c_1 (hx0)) (fun c_1 => ?_)
  refine w_iload_n dX6_move_4 rfl ?_
  refine w_aload_n dX6_move_5 rfl ?_
  refine v_callV dX6_move_6 lk_X6_121 [] rfl (c_listMoves E l hl h (by omega)) (g_recv.obj (ci := 6) rfl (by decide) (show 0 < N by omega)) rfl ⟨⟨by decide, by decide⟩, by decide, by decide⟩ (lb rfl) (fun x_6 I' h_6 => ?_)
  obtain ⟨e1, e2, e3, e4⟩ := h_6
  rw [e1]
  refine w_icmp_lt (tgt := 22) dX6_move_9 (by decide) (fun c_9 => absurd c_9 (hx)) (fun c_9 => ?_)
  refine w_throw (X := "java/lang/IndexOutOfBoundsException") (tx := "there is no such move") rfl rfl (by decide +kernel) (by decide +kernel) dX6_move_12 dX6_move_15 dX6_move_16 dX6_move_18 dX6_move_21 (by decide) (lb rfl) (by decide) (by decide) (by decide) (by decide) ⟨_, rfl, ⟨e3, e4⟩, rfl⟩
set_option maxRecDepth 100000 in
theorem c_move_x2 (hl : lk R N sw) (h : rC I J sw A n) (hn5 : n < 99999) {i : Nat} (hi : i < (mvs A.cf A.st.pos).length) {z : Int32} (hz : z < 0 ∨ ¬ z < nI 7) : g_Ct E l mX6_move 6 142 1 6 [.ref 0, .int (nI i), .int z] (I, J, R, D, N, ex) (g_rx "java/lang/IllegalArgumentException" (fun I' => frS I I' ∧ prp I' A (n + 1)) J R D N) := by
  refine g_Ct.of (by decide +kernel) (lb rfl) ?_
  have hN := hl.2.2.2.2.2.2.2.2.2.2.2.2.2.2.2.2
  have h81 := mvs_81 (cf_ok (mi := A.st.mi) h.2.1 (h.2.2.2.2.1.rs h.1.2)) A.st.pos
  have h81' : (mvs A.cf A.st.pos).length ≤ 81 := h81
  refine w_iload_n dX6_move_0 rfl ?_
  refine w_if_lt (tgt := 12) dX6_move_1 (by decide) (fun c_1 => absurd c_1 ((nI_pos (by omega)))) (fun c_1 => ?_)
  refine w_iload_n dX6_move_4 rfl ?_
  refine w_aload_n dX6_move_5 rfl ?_
  refine v_callV dX6_move_6 lk_X6_121 [] rfl (c_listMoves E l hl h (by omega)) (g_recv.obj (ci := 6) rfl (by decide) (show 0 < N by omega)) rfl ⟨⟨by decide, by decide⟩, by decide, by decide⟩ (lb rfl) (fun x_6 I' h_6 => ?_)
  obtain ⟨e1, e2, e3, e4⟩ := h_6
  rw [e1]
  refine w_icmp_lt (tgt := 22) dX6_move_9 (by decide) (fun c_9 => ?_) (fun c_9 => absurd ((nI_lt (by omega) (by omega))) c_9)
  refine w_iload_n dX6_move_22 rfl ?_
  refine w_if_lt (tgt := 32) dX6_move_23 (by decide) (fun c_23 => ?_) (fun c_23 => ?_)
  · refine w_throw (X := "java/lang/IllegalArgumentException") (tx := "what is out of range") rfl rfl (by decide +kernel) (by decide +kernel) dX6_move_32 dX6_move_35 dX6_move_36 dX6_move_38 dX6_move_41 (by decide) (lb rfl) (by decide) (by decide) (by decide) (by decide) ⟨_, rfl, ⟨e3, e4⟩, rfl⟩
  · refine w_iload_n dX6_move_26 rfl ?_
    refine w_bipush (v := 6) dX6_move_27 (by decide) ?_
    refine w_icmp_le (tgt := 42) dX6_move_29 (by decide) (fun c_29 => absurd c_29 ((by rcases hz with y | y; exact absurd y c_23; intro q; apply y; rw [Int32.le_iff_toInt_le] at q; rw [Int32.lt_iff_toInt_lt, nI_toInt (by omega)]; have e : (6 : Int32).toInt = 6 := rfl; rw [e] at q; omega))) (fun c_29 => ?_)
    refine w_throw (X := "java/lang/IllegalArgumentException") (tx := "what is out of range") rfl rfl (by decide +kernel) (by decide +kernel) dX6_move_32 dX6_move_35 dX6_move_36 dX6_move_38 dX6_move_41 (by decide) (lb rfl) (by decide) (by decide) (by decide) (by decide) ⟨_, rfl, ⟨e3, e4⟩, rfl⟩
end FH
