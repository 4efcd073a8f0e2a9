/-! HeapGames: takeBoth, pass, settings -/
theorem ps_set {s : St} {p : Nat} : St.pos (s.hs, p, s.mi, s.pl) = pk4 s.zs + 2 ^ 16 * p := rfl
def bothOK (A : AS) (k o : Nat) (a : Nat) : Prop := k ≠ o ∧ 1 ≤ a ∧ a ≤ 15 ∧ A.ru.2.2.testBit a = true ∧ a ≤ A.st.sz k ∧ a ≤ A.st.sz o
theorem i_1m {x : Int32} {m : Nat} (hm : m < 1000) (h1 : ¬ x < 1) (h2 : ¬ nI m < x) : ∃ a, 1 ≤ a ∧ a ≤ m ∧ x = nI a := i_1n (by omega) h1 (by
  rw [Int32.lt_iff_toInt_lt] at h2
  rw [Int32.le_iff_toInt_le]
  omega)
theorem min_max {k o : Nat} (h : k ≠ o) : min k o < max k o := by omega
theorem both_code {k o a : Nat} (hk : k < 4) (ho : o < 4) (hne : k ≠ o) (ha : a ≤ 15) : s_with (s_with 0 (nI k) (nI a)) (nI o) (nI a) = nI (Mv.both (min k o) (max k o) a).code := by
  rw [show s_with 0 (nI k) (nI a) = nI (setN 0 k a) from with_nI (x := 0) hk (by omega), with_nI ho (by omega), set_two hk ho hne (by omega)]
  rfl
theorem saS_cong {s t : St} : ∀ {n : Nat}, (∀ k, k < n → s.sz k = t.sz k) → saS s n = saS t n
  | 0, _ => rfl
  | n + 1, h => by rw [saS, saS, h n (by omega), saS_cong (n := n) (fun k hk => h k (by omega))]
section FL
variable (E : GE) (l : Launch)
variable {I : Nat → Nat → Int32} {J : Nat → Nat → Int64} {R : Nat → Nat → Option Nat} {D : Nat → Nat → UInt64} {N : Nat} {ex : Bool} {sw : Bool} {A : AS} {n s : Nat}
set_option maxRecDepth 100000 in
theorem c_takeBoth_full (hl : lk R N sw) (h : rC I J sw A n) {k o a : Nat} (hk : k < A.st.hs.length) (ho : o < A.st.hs.length) (hb : bothOK A k o a) (hf : A.st.pl.length = 40) : g_Ct E l mX6_takeBoth 7 123 0 0 [.ref 0, .int (nI k), .int (nI o), .int (nI a)] (I, J, R, D, N, ex) (g_is (some (.int (-1))) (I, J, R, D, N, ex)) := by
  refine g_Ct.of (by decide +kernel) (lb rfl) ?_
  have hN := hl.2.2.2.2.2.2.2.2.2.2.2.2.2.2.2.2
  have hg := hl.1
  have hgm := gm_b sw
  have hok := h.2.2.2.2.1
  have h4 := hok.1
  have hs1 := hok.sz k
  have hs2 := hok.sz o
  have hsh := h.2.1.2.2
  obtain ⟨b1, b2, b3, b4, b5, b6⟩ := hb
  refine w_aload_n dX6_takeBoth_0 rfl ?_
  refine w_iload_n dX6_takeBoth_1 rfl ?_
  refine z_callV dX6_takeBoth_2 lk_X6_171 [.int (nI k)] rfl (c_requireHeap E l hl h hk) (g_recv.obj (ci := 6) rfl (by decide) (show 0 < N by omega)) rfl ⟨⟨by decide, by decide⟩, by decide, by decide⟩ (lb rfl) ?_
  refine w_aload_n dX6_takeBoth_5 rfl ?_
  refine w_iload_n dX6_takeBoth_6 rfl ?_
  refine z_callV dX6_takeBoth_7 lk_X6_171 [.int (nI o)] rfl (c_requireHeap E l hl h ho) (g_recv.obj (ci := 6) rfl (by decide) (show 0 < N by omega)) rfl ⟨⟨by decide, by decide⟩, by decide, by decide⟩ (lb rfl) ?_
  refine w_iload_n dX6_takeBoth_10 rfl ?_
  refine w_iload_n dX6_takeBoth_11 rfl ?_
  refine w_icmp_ne (tgt := 25) dX6_takeBoth_12 (by decide) (fun c_12 => ?_) (fun c_12 => absurd c_12 ((fun z => b1 (n_eq z))))
  refine w_iload_n dX6_takeBoth_25 rfl ?_
  refine w_iconst (v := 1) dX6_takeBoth_26 (by decide) ?_
  refine w_icmp_lt (tgt := 50) dX6_takeBoth_27 (by decide) (fun c_27 => absurd c_27 ((nI_nlt (b := 1) (by omega) (by omega)))) (fun c_27 => ?_)
  refine w_iload_n dX6_takeBoth_30 rfl ?_
  refine w_bipush (v := 15) dX6_takeBoth_31 (by decide) ?_
  refine w_icmp_gt (tgt := 50) dX6_takeBoth_33 (by decide) (fun c_33 => absurd c_33 ((nI_nlt (a := 15) (by omega) (by omega)))) (fun c_33 => ?_)
  refine w_aload_n dX6_takeBoth_36 rfl ?_
  refine x_getr (ci := 6) (k := 0) (a := gm sw) dX6_takeBoth_37 rfl (by decide) (by decide) (by omega) fl_X6_12 (Or.inl ⟨_, rfl⟩) hl.2.2.2.2.1 ?_
  refine x_geti (ci := 0) (k := 2) dX6_takeBoth_40 hg.1 (by decide) (by decide) (by omega) fl_X6_99 rfl ?_
  rw [h.2.2.1.1]
  refine w_iload_n dX6_takeBoth_43 rfl ?_
  refine w_ishr dX6_takeBoth_44 ?_
  refine w_iconst (v := 1) dX6_takeBoth_45 (by decide) ?_
  refine w_iand dX6_takeBoth_46 ?_
  rw [nI_bit (by omega) (by omega)]
  refine w_if_ne (tgt := 60) dX6_takeBoth_47 (by decide) (fun c_47 => ?_) (fun c_47 => absurd c_47 ((fun z => by rw [bit_0 z] at b4; cases b4)))
  refine w_aload_n dX6_takeBoth_60 rfl ?_
  refine w_iload_n dX6_takeBoth_61 rfl ?_
  refine y_callV dX6_takeBoth_62 lk_X6_174 [.int (nI k)] rfl (c_countersOf E l hl h (show k < 4 by omega)) (g_recv.obj (ci := 6) rfl (by decide) (show 0 < N by omega)) rfl ⟨⟨by decide, by decide⟩, by decide, by decide⟩ (lb rfl) ?_
  refine w_iload_n dX6_takeBoth_65 rfl ?_
  refine w_icmp_lt (tgt := 78) dX6_takeBoth_66 (by decide) (fun c_66 => absurd c_66 ((nI_nlt (by omega) (by omega)))) (fun c_66 => ?_)
  refine w_aload_n dX6_takeBoth_69 rfl ?_
  refine w_iload_n dX6_takeBoth_70 rfl ?_
  refine y_callV dX6_takeBoth_71 lk_X6_174 [.int (nI o)] rfl (c_countersOf E l hl h (show o < 4 by omega)) (g_recv.obj (ci := 6) rfl (by decide) (show 0 < N by omega)) rfl ⟨⟨by decide, by decide⟩, by decide, by decide⟩ (lb rfl) ?_
  refine w_iload_n dX6_takeBoth_74 rfl ?_
  refine w_icmp_ge (tgt := 88) dX6_takeBoth_75 (by decide) (fun c_75 => ?_) (fun c_75 => absurd ((nI_le (by omega) (by omega))) c_75)
  refine w_aload_n dX6_takeBoth_88 rfl ?_
  refine y_callV dX6_takeBoth_89 lk_X6_238 [] rfl (c_isRecordFull E l hl h) (g_recv.obj (ci := 6) rfl (by decide) (show 0 < N by omega)) rfl ⟨⟨by decide, by decide⟩, by decide, by decide⟩ (lb rfl) ?_
  rw [decide_eq_true hf]
  refine w_if_eq (tgt := 97) dX6_takeBoth_92 (by decide) (fun c_92 => absurd c_92 ((by decide))) (fun c_92 => ?_)
  refine w_iconst (v := (-1)) dX6_takeBoth_95 (by decide) ?_
  refine w_iret dX6_takeBoth_96 rfl rfl ⟨rfl, rfl⟩ (by decide) (by decide)
set_option maxRecDepth 100000 in
theorem c_takeBoth (hl : lk R N sw) (h : rC I J sw A n) {k o a : Nat} (hk : k < A.st.hs.length) (ho : o < A.st.hs.length) (hb : bothOK A k o a) (hf : A.st.pl.length < 40) : g_Ct E l mX6_takeBoth 7 123 0 0 [.ref 0, .int (nI k), .int (nI o), .int (nI a)] (I, J, R, D, N, ex) (g_ri (fun x I' => x = nI (saS (A.st.play (Mv.both (min k o) (max k o) a)) A.st.hs.length) ∧ frM I I' ∧ rC I' J sw (A.rec (A.st.play (Mv.both (min k o) (max k o) a))) n) J R D N ex) := by
  refine g_Ct.of (by decide +kernel) (lb rfl) ?_
  have hN := hl.2.2.2.2.2.2.2.2.2.2.2.2.2.2.2.2
  have hg := hl.1
  have hgm := gm_b sw
  have hok := h.2.2.2.2.1
  have h4 := hok.1
  have hs1 := hok.sz k
  have hs2 := hok.sz o
  have hsh := h.2.1.2.2
  obtain ⟨b1, b2, b3, b4, b5, b6⟩ := hb
  have hpl : playOK A.st (Mv.both (min k o) (max k o) a) := by
    refine ⟨min_max b1, (by omega : max k o < A.st.hs.length), b2, ?_, ?_⟩
    · show a ≤ A.st.sz (min k o)
      rcases Nat.lt_or_ge k o with z | z
      · rw [Nat.min_eq_left (by omega)]; exact b5
      · rw [Nat.min_eq_right z]; exact b6
    · show a ≤ A.st.sz (max k o)
      rcases Nat.lt_or_ge k o with z | z
      · rw [Nat.max_eq_right (by omega)]; exact b6
      · rw [Nat.max_eq_left z]; exact b5
  have hlen := (play_ok hok hpl hf).2.2.2.2.1
  refine w_aload_n dX6_takeBoth_0 rfl ?_
  refine w_iload_n dX6_takeBoth_1 rfl ?_
  refine z_callV dX6_takeBoth_2 lk_X6_171 [.int (nI k)] rfl (c_requireHeap E l hl h hk) (g_recv.obj (ci := 6) rfl (by decide) (show 0 < N by omega)) rfl ⟨⟨by decide, by decide⟩, by decide, by decide⟩ (lb rfl) ?_
  refine w_aload_n dX6_takeBoth_5 rfl ?_
  refine w_iload_n dX6_takeBoth_6 rfl ?_
  refine z_callV dX6_takeBoth_7 lk_X6_171 [.int (nI o)] rfl (c_requireHeap E l hl h ho) (g_recv.obj (ci := 6) rfl (by decide) (show 0 < N by omega)) rfl ⟨⟨by decide, by decide⟩, by decide, by decide⟩ (lb rfl) ?_
  refine w_iload_n dX6_takeBoth_10 rfl ?_
  refine w_iload_n dX6_takeBoth_11 rfl ?_
  refine w_icmp_ne (tgt := 25) dX6_takeBoth_12 (by decide) (fun c_12 => ?_) (fun c_12 => absurd c_12 ((fun z => b1 (n_eq z))))
  refine w_iload_n dX6_takeBoth_25 rfl ?_
  refine w_iconst (v := 1) dX6_takeBoth_26 (by decide) ?_
  refine w_icmp_lt (tgt := 50) dX6_takeBoth_27 (by decide) (fun c_27 => absurd c_27 ((nI_nlt (b := 1) (by omega) (by omega)))) (fun c_27 => ?_)
  refine w_iload_n dX6_takeBoth_30 rfl ?_
  refine w_bipush (v := 15) dX6_takeBoth_31 (by decide) ?_
  refine w_icmp_gt (tgt := 50) dX6_takeBoth_33 (by decide) (fun c_33 => absurd c_33 ((nI_nlt (a := 15) (by omega) (by omega)))) (fun c_33 => ?_)
  refine w_aload_n dX6_takeBoth_36 rfl ?_
  refine x_getr (ci := 6) (k := 0) (a := gm sw) dX6_takeBoth_37 rfl (by decide) (by decide) (by omega) fl_X6_12 (Or.inl ⟨_, rfl⟩) hl.2.2.2.2.1 ?_
  refine x_geti (ci := 0) (k := 2) dX6_takeBoth_40 hg.1 (by decide) (by decide) (by omega) fl_X6_99 rfl ?_
  rw [h.2.2.1.1]
  refine w_iload_n dX6_takeBoth_43 rfl ?_
  refine w_ishr dX6_takeBoth_44 ?_
  refine w_iconst (v := 1) dX6_takeBoth_45 (by decide) ?_
  refine w_iand dX6_takeBoth_46 ?_
  rw [nI_bit (by omega) (by omega)]
  refine w_if_ne (tgt := 60) dX6_takeBoth_47 (by decide) (fun c_47 => ?_) (fun c_47 => absurd c_47 ((fun z => by rw [bit_0 z] at b4; cases b4)))
  refine w_aload_n dX6_takeBoth_60 rfl ?_
  refine w_iload_n dX6_takeBoth_61 rfl ?_
  refine y_callV dX6_takeBoth_62 lk_X6_174 [.int (nI k)] rfl (c_countersOf E l hl h (show k < 4 by omega)) (g_recv.obj (ci := 6) rfl (by decide) (show 0 < N by omega)) rfl ⟨⟨by decide, by decide⟩, by decide, by decide⟩ (lb rfl) ?_
  refine w_iload_n dX6_takeBoth_65 rfl ?_
  refine w_icmp_lt (tgt := 78) dX6_takeBoth_66 (by decide) (fun c_66 => absurd c_66 ((nI_nlt (by omega) (by omega)))) (fun c_66 => ?_)
  refine w_aload_n dX6_takeBoth_69 rfl ?_
  refine w_iload_n dX6_takeBoth_70 rfl ?_
  refine y_callV dX6_takeBoth_71 lk_X6_174 [.int (nI o)] rfl (c_countersOf E l hl h (show o < 4 by omega)) (g_recv.obj (ci := 6) rfl (by decide) (show 0 < N by omega)) rfl ⟨⟨by decide, by decide⟩, by decide, by decide⟩ (lb rfl) ?_
  refine w_iload_n dX6_takeBoth_74 rfl ?_
  refine w_icmp_ge (tgt := 88) dX6_takeBoth_75 (by decide) (fun c_75 => ?_) (fun c_75 => absurd ((nI_le (by omega) (by omega))) c_75)
  refine w_aload_n dX6_takeBoth_88 rfl ?_
  refine y_callV dX6_takeBoth_89 lk_X6_238 [] rfl (c_isRecordFull E l hl h) (g_recv.obj (ci := 6) rfl (by decide) (show 0 < N by omega)) rfl ⟨⟨by decide, by decide⟩, by decide, by decide⟩ (lb rfl) ?_
  rw [decide_eq_false (show ¬ A.st.pl.length = 40 by omega)]
  refine w_if_eq (tgt := 97) dX6_takeBoth_92 (by decide) (fun c_92 => ?_) (fun c_92 => absurd ((by decide)) c_92)
  refine w_aload_n dX6_takeBoth_97 rfl ?_
  refine w_iconst (v := 0) dX6_takeBoth_98 (by decide) ?_
  refine w_iload_n dX6_takeBoth_99 rfl ?_
  refine w_iload_n dX6_takeBoth_100 rfl ?_
  refine y_callS dX6_takeBoth_101 lk_X6_216 [.int 0, .int (nI k), .int (nI a)] rfl (c_withBits E l _ _ _ _) rfl ⟨⟨by decide, by decide⟩, by decide, by decide⟩ (lb rfl) ?_
  refine w_iload_n dX6_takeBoth_104 rfl ?_
  refine w_iload_n dX6_takeBoth_105 rfl ?_
  refine y_callS dX6_takeBoth_106 lk_X6_216 [.int (s_with 0 (nI k) (nI a)), .int (nI o), .int (nI a)] rfl (c_withBits E l _ _ _ _) rfl ⟨⟨by decide, by decide⟩, by decide, by decide⟩ (lb rfl) ?_
  rw [both_code (by omega) (by omega) b1 b3]
  refine u_callV dX6_takeBoth_109 lk_X6_242 [.int (nI (Mv.both (min k o) (max k o) a).code)] rfl (c_playMove E l hl h hpl hf) (g_recv.obj (ci := 6) rfl (by decide) (show 0 < N by omega)) rfl ⟨⟨by decide, by decide⟩, by decide, by decide⟩ (lb rfl) (fun I' h_109 => ?_)
  obtain ⟨f1, f2⟩ := h_109
  refine w_aload_n dX6_takeBoth_112 rfl ?_
  refine y_callV dX6_takeBoth_113 lk_X6_251 [] rfl (c_countersOfAll E l hl f2) (g_recv.obj (ci := 6) rfl (by decide) (show 0 < N by omega)) rfl ⟨⟨by decide, by decide⟩, by decide, by decide⟩ (lb rfl) ?_
  refine w_iret dX6_takeBoth_116 rfl rfl ⟨_, _, rfl, ⟨by show nI (saS (A.st.play (Mv.both (min k o) (max k o) a)) (A.st.play (Mv.both (min k o) (max k o) a)).hs.length) = _; rw [hlen], f1, f2⟩, rfl⟩ (by decide) (by decide)
set_option maxRecDepth 100000 in
theorem c_takeBoth_x1 (hl : lk R N sw) (h : rC I J sw A n) {x : Int32} (hx : x < 0 ∨ ¬ x < nI A.st.hs.length) (y z : Int32) : g_Ct E l mX6_takeBoth 7 123 1 6 [.ref 0, .int x, .int y, .int z] (I, J, R, D, N, ex) (g_ths "java/lang/IndexOutOfBoundsException" (I, J, R, D, N, false)) := by
  refine g_Ct.of (by decide +kernel) (lb rfl) ?_
  have hN := hl.2.2.2.2.2.2.2.2.2.2.2.2.2.2.2.2
  refine w_aload_n dX6_takeBoth_0 rfl ?_
  refine w_iload_n dX6_takeBoth_1 rfl ?_
  refine t_callV dX6_takeBoth_2 lk_X6_171 [.int x] rfl (c_requireHeap_x E l hl h hx) (g_recv.obj (ci := 6) rfl (by decide) (show 0 < N by omega)) rfl ⟨⟨by decide, by decide⟩, by decide, by decide⟩ (lb rfl) (w_out rfl ⟨rfl, rfl⟩ (by decide) (by decide))
set_option maxRecDepth 100000 in
theorem c_takeBoth_x2 (hl : lk R N sw) (h : rC I J sw A n) {k : Nat} (hk : k < A.st.hs.length) {x : Int32} (hx : x < 0 ∨ ¬ x < nI A.st.hs.length) (z : Int32) : g_Ct E l mX6_takeBoth 7 123 1 6 [.ref 0, .int (nI k), .int x, .int z] (I, J, R, D, N, ex) (g_ths "java/lang/IndexOutOfBoundsException" (I, J, R, D, N, false)) := by
  refine g_Ct.of (by decide +kernel) (lb rfl) ?_
  have hN := hl.2.2.2.2.2.2.2.2.2.2.2.2.2.2.2.2
  refine w_aload_n dX6_takeBoth_0 rfl ?_
  refine w_iload_n dX6_takeBoth_1 rfl ?_
  refine z_callV dX6_takeBoth_2 lk_X6_171 [.int (nI k)] rfl (c_requireHeap E l hl h hk) (g_recv.obj (ci := 6) rfl (by decide) (show 0 < N by omega)) rfl ⟨⟨by decide, by decide⟩, by decide, by decide⟩ (lb rfl) ?_
  refine w_aload_n dX6_takeBoth_5 rfl ?_
  refine w_iload_n dX6_takeBoth_6 rfl ?_
  refine t_callV dX6_takeBoth_7 lk_X6_171 [.int x] rfl (c_requireHeap_x E l hl h hx) (g_recv.obj (ci := 6) rfl (by decide) (show 0 < N by omega)) rfl ⟨⟨by decide, by decide⟩, by decide, by decide⟩ (lb rfl) (w_out rfl ⟨rfl, rfl⟩ (by decide) (by decide))
set_option maxRecDepth 100000 in
theorem c_takeBoth_x3 (hl : lk R N sw) (h : rC I J sw A n) {k o : Nat} (hk : k < A.st.hs.length) (ho : o < A.st.hs.length) {z : Int32} (hz : ¬ ∃ a, z = nI a ∧ bothOK A k o a) : g_Ct E l mX6_takeBoth 7 123 1 6 [.ref 0, .int (nI k), .int (nI o), .int z] (I, J, R, D, N, ex) (g_ths "java/lang/IllegalArgumentException" (I, J, R, D, N, false)) := by
  refine g_Ct.of (by decide +kernel) (lb rfl) ?_
  have hN := hl.2.2.2.2.2.2.2.2.2.2.2.2.2.2.2.2
  have hg := hl.1
  have hgm := gm_b sw
  have hok := h.2.2.2.2.1
  have h4 := hok.1
  have hs1 := hok.sz k
  have hs2 := hok.sz o
  have hsh := h.2.1.2.2
  refine w_aload_n dX6_takeBoth_0 rfl ?_
  refine w_iload_n dX6_takeBoth_1 rfl ?_
  refine z_callV dX6_takeBoth_2 lk_X6_171 [.int (nI k)] rfl (c_requireHeap E l hl h hk) (g_recv.obj (ci := 6) rfl (by decide) (show 0 < N by omega)) rfl ⟨⟨by decide, by decide⟩, by decide, by decide⟩ (lb rfl) ?_
  refine w_aload_n dX6_takeBoth_5 rfl ?_
  refine w_iload_n dX6_takeBoth_6 rfl ?_
  refine z_callV dX6_takeBoth_7 lk_X6_171 [.int (nI o)] rfl (c_requireHeap E l hl h ho) (g_recv.obj (ci := 6) rfl (by decide) (show 0 < N by omega)) rfl ⟨⟨by decide, by decide⟩, by decide, by decide⟩ (lb rfl) ?_
  refine w_iload_n dX6_takeBoth_10 rfl ?_
  refine w_iload_n dX6_takeBoth_11 rfl ?_
  refine w_icmp_ne (tgt := 25) dX6_takeBoth_12 (by decide) (fun c_12 => ?_) (fun c_12 => ?_)
  · refine w_iload_n dX6_takeBoth_25 rfl ?_
    refine w_iconst (v := 1) dX6_takeBoth_26 (by decide) ?_
    refine w_icmp_lt (tgt := 50) dX6_takeBoth_27 (by decide) (fun c_27 => ?_) (fun c_27 => ?_)
    · refine w_throw (X := "java/lang/IllegalArgumentException") (tx := "the amount is no shared one") rfl rfl (by decide +kernel) (by decide +kernel) dX6_takeBoth_50 dX6_takeBoth_53 dX6_takeBoth_54 dX6_takeBoth_56 dX6_takeBoth_59 (by decide) (lb rfl) (by decide) (by decide) (by decide) (by decide) ⟨rfl, rfl⟩
    · refine w_iload_n dX6_takeBoth_30 rfl ?_
      refine w_bipush (v := 15) dX6_takeBoth_31 (by decide) ?_
      refine w_icmp_gt (tgt := 50) dX6_takeBoth_33 (by decide) (fun c_33 => ?_) (fun c_33 => ?_)
      · refine w_throw (X := "java/lang/IllegalArgumentException") (tx := "the amount is no shared one") rfl rfl (by decide +kernel) (by decide +kernel) dX6_takeBoth_50 dX6_takeBoth_53 dX6_takeBoth_54 dX6_takeBoth_56 dX6_takeBoth_59 (by decide) (lb rfl) (by decide) (by decide) (by decide) (by decide) ⟨rfl, rfl⟩
      · obtain ⟨a, a1, a2, rfl⟩ := i_1m (m := 15) (by omega) c_27 c_33
        refine w_aload_n dX6_takeBoth_36 rfl ?_
        refine x_getr (ci := 6) (k := 0) (a := gm sw) dX6_takeBoth_37 rfl (by decide) (by decide) (by omega) fl_X6_12 (Or.inl ⟨_, rfl⟩) hl.2.2.2.2.1 ?_
        refine x_geti (ci := 0) (k := 2) dX6_takeBoth_40 hg.1 (by decide) (by decide) (by omega) fl_X6_99 rfl ?_
        rw [h.2.2.1.1]
        refine w_iload_n dX6_takeBoth_43 rfl ?_
        refine w_ishr dX6_takeBoth_44 ?_
        refine w_iconst (v := 1) dX6_takeBoth_45 (by decide) ?_
        refine w_iand dX6_takeBoth_46 ?_
        rw [nI_bit (by omega) (by omega)]
        refine w_if_ne (tgt := 60) dX6_takeBoth_47 (by decide) (fun c_47 => ?_) (fun c_47 => ?_)
        · refine w_aload_n dX6_takeBoth_60 rfl ?_
          refine w_iload_n dX6_takeBoth_61 rfl ?_
          refine y_callV dX6_takeBoth_62 lk_X6_174 [.int (nI k)] rfl (c_countersOf E l hl h (show k < 4 by omega)) (g_recv.obj (ci := 6) rfl (by decide) (show 0 < N by omega)) rfl ⟨⟨by decide, by decide⟩, by decide, by decide⟩ (lb rfl) ?_
          refine w_iload_n dX6_takeBoth_65 rfl ?_
          refine w_icmp_lt (tgt := 78) dX6_takeBoth_66 (by decide) (fun c_66 => ?_) (fun c_66 => ?_)
          · refine w_throw (X := "java/lang/IllegalArgumentException") (tx := "a heap has fewer counters") rfl rfl (by decide +kernel) (by decide +kernel) dX6_takeBoth_78 dX6_takeBoth_81 dX6_takeBoth_82 dX6_takeBoth_84 dX6_takeBoth_87 (by decide) (lb rfl) (by decide) (by decide) (by decide) (by decide) ⟨rfl, rfl⟩
          · refine w_aload_n dX6_takeBoth_69 rfl ?_
            refine w_iload_n dX6_takeBoth_70 rfl ?_
            refine y_callV dX6_takeBoth_71 lk_X6_174 [.int (nI o)] rfl (c_countersOf E l hl h (show o < 4 by omega)) (g_recv.obj (ci := 6) rfl (by decide) (show 0 < N by omega)) rfl ⟨⟨by decide, by decide⟩, by decide, by decide⟩ (lb rfl) ?_
            refine w_iload_n dX6_takeBoth_74 rfl ?_
            refine w_icmp_ge (tgt := 88) dX6_takeBoth_75 (by decide) (fun c_75 => ?_) (fun c_75 => ?_)
            · exact absurd ⟨a, rfl, (fun q => c_12 (congrArg nI q)), a1, a2, bit_1 c_47, n_nlt c_66, n_le c_75⟩ hz
            · refine w_throw (X := "java/lang/IllegalArgumentException") (tx := "a heap has fewer counters") rfl rfl (by decide +kernel) (by decide +kernel) dX6_takeBoth_78 dX6_takeBoth_81 dX6_takeBoth_82 dX6_takeBoth_84 dX6_takeBoth_87 (by decide) (lb rfl) (by decide) (by decide) (by decide) (by decide) ⟨rfl, rfl⟩
        · refine w_throw (X := "java/lang/IllegalArgumentException") (tx := "the amount is no shared one") rfl rfl (by decide +kernel) (by decide +kernel) dX6_takeBoth_50 dX6_takeBoth_53 dX6_takeBoth_54 dX6_takeBoth_56 dX6_takeBoth_59 (by decide) (lb rfl) (by decide) (by decide) (by decide) (by decide) ⟨rfl, rfl⟩
  · refine w_throw (X := "java/lang/IllegalArgumentException") (tx := "both heaps are the same") rfl rfl (by decide +kernel) (by decide +kernel) dX6_takeBoth_15 dX6_takeBoth_18 dX6_takeBoth_19 dX6_takeBoth_21 dX6_takeBoth_24 (by decide) (lb rfl) (by decide) (by decide) (by decide) (by decide) ⟨rfl, rfl⟩
set_option maxRecDepth 100000 in
theorem c_pass (hl : lk R N sw) (h : rC I J sw A n) (hn5 : n < 100000) (hp : 1 ≤ A.st.ps) (hm : 0 < (mvs A.cf A.st.pos).length) (hf : A.st.pl.length < 40) : g_Ct E l mX6_pass 6 123 0 0 [.ref 0] (I, J, R, D, N, ex) (g_ri (fun x I' => x = nI (A.st.ps - 1) ∧ frM I I' ∧ rC I' J sw (A.rec (A.st.play Mv.pass)) (n + 1)) J R D N ex) := by
  refine g_Ct.of (by decide +kernel) (lb rfl) ?_
  have hN := hl.2.2.2.2.2.2.2.2.2.2.2.2.2.2.2.2
  have hg := hl.1
  have hgm := gm_b sw
  have hok := h.2.2.2.2.1
  have h3 := hok.2.2.1
  have h81 := mvs_81 (cf_ok (mi := A.st.mi) h.2.1 (hok.rs h.1.2)) A.st.pos
  have h81' : (mvs A.cf A.st.pos).length ≤ 81 := h81
  have hpl : playOK A.st Mv.pass := hp
  obtain ⟨p1, p2, _⟩ := play_ok hok hpl hf
  refine w_aload_n dX6_pass_0 rfl ?_
  refine x_getr (ci := 6) (k := 0) (a := gm sw) dX6_pass_1 rfl (by decide) (by decide) (by omega) fl_X6_12 (Or.inl ⟨_, rfl⟩) hl.2.2.2.2.1 ?_
  refine x_getr (ci := 0) (k := 3) (a := gm sw + 2) dX6_pass_4 hg.1 (by decide) (by decide) (by omega) fl_X6_85 (Or.inl ⟨_, rfl⟩) hg.2.2.2.2.1 ?_
  refine x_geti (ci := 4) (k := 2) dX6_pass_7 hg.2.2.2.2.2.1.1 (by decide) (by decide) (by omega) fl_X6_92 rfl ?_
  rw [h.2.2.2.2.2.1.2.2.1]
  refine y_callS dX6_pass_10 lk_X6_95 [.int (nI A.st.pos)] rfl (c_passesOf E l _ _) rfl ⟨⟨by decide, by decide⟩, by decide, by decide⟩ (lb rfl) ?_
  rw [passes_nI (by have := hok.pos; omega), hok.ps]
  refine w_if_eq (tgt := 23) dX6_pass_13 (by decide) (fun c_13 => absurd c_13 ((nI_ne0 (by omega) (by omega)))) (fun c_13 => ?_)
  refine w_aload_n dX6_pass_16 rfl ?_
  refine v_callV dX6_pass_17 lk_X6_121 [] rfl (c_listMoves E l hl h hn5) (g_recv.obj (ci := 6) rfl (by decide) (show 0 < N by omega)) rfl ⟨⟨by decide, by decide⟩, by decide, by decide⟩ (lb rfl) (fun x_17 I' h_17 => ?_)
  obtain ⟨e1, e2, e3, e4⟩ := h_17
  rw [e1]
  have hC := h.pr e3 e4
  refine w_if_ne (tgt := 34) dX6_pass_20 (by decide) (fun c_20 => ?_) (fun c_20 => absurd c_20 ((nI_ne0 (by omega) (by omega))))
  refine w_aload_n dX6_pass_34 rfl ?_
  refine y_callV dX6_pass_35 lk_X6_238 [] rfl (c_isRecordFull E l hl hC) (g_recv.obj (ci := 6) rfl (by decide) (show 0 < N by omega)) rfl ⟨⟨by decide, by decide⟩, by decide, by decide⟩ (lb rfl) ?_
  rw [decide_eq_false (show ¬ A.st.pl.length = 40 by omega)]
  refine w_if_eq (tgt := 43) dX6_pass_38 (by decide) (fun c_38 => ?_) (fun c_38 => absurd ((by decide)) c_38)
  refine w_aload_n dX6_pass_43 rfl ?_
  refine w_ldcw dX6_pass_44 kc_X6_259 ?_
  refine u_callV dX6_pass_47 lk_X6_242 [.int 65536] rfl (c_playMove E l hl hC hpl hf) (g_recv.obj (ci := 6) rfl (by decide) (show 0 < N by omega)) rfl ⟨⟨by decide, by decide⟩, by decide, by decide⟩ (lb rfl) (fun I2 h_47 => ?_)
  obtain ⟨g1, g2⟩ := h_47
  refine w_aload_n dX6_pass_50 rfl ?_
  refine x_getr (ci := 6) (k := 0) (a := gm sw) dX6_pass_51 rfl (by decide) (by decide) (by omega) fl_X6_12 (Or.inl ⟨_, rfl⟩) hl.2.2.2.2.1 ?_
  refine x_getr (ci := 0) (k := 3) (a := gm sw + 2) dX6_pass_54 hg.1 (by decide) (by decide) (by omega) fl_X6_85 (Or.inl ⟨_, rfl⟩) hg.2.2.2.2.1 ?_
  refine x_geti (ci := 4) (k := 2) dX6_pass_57 hg.2.2.2.2.2.1.1 (by decide) (by decide) (by omega) fl_X6_92 rfl ?_
  rw [g2.2.2.2.2.2.1.2.2.1]
  refine y_callS dX6_pass_60 lk_X6_95 [.int (nI (A.st.play Mv.pass).pos)] rfl (c_passesOf E l _ _) rfl ⟨⟨by decide, by decide⟩, by decide, by decide⟩ (lb rfl) ?_
  rw [passes_nI (by have := p1.pos; omega), p1.ps]
  refine w_iret dX6_pass_63 rfl rfl ⟨_, _, rfl, ⟨rfl, e3.m.trans g1, g2⟩, rfl⟩ (by decide) (by decide)
set_option maxRecDepth 100000 in
theorem c_pass_full (hl : lk R N sw) (h : rC I J sw A n) (hn5 : n < 100000) (hp : 1 ≤ A.st.ps) (hm : 0 < (mvs A.cf A.st.pos).length) (hf : A.st.pl.length = 40) : g_Ct E l mX6_pass 6 123 0 0 [.ref 0] (I, J, R, D, N, ex) (g_ri (fun x I' => x = -1 ∧ frM I I' ∧ rC I' J sw A (n + 1)) J R D N ex) := by
  refine g_Ct.of (by decide +kernel) (lb rfl) ?_
  have hN := hl.2.2.2.2.2.2.2.2.2.2.2.2.2.2.2.2
  have hg := hl.1
  have hgm := gm_b sw
  have hok := h.2.2.2.2.1
  have h3 := hok.2.2.1
  have h81 := mvs_81 (cf_ok (mi := A.st.mi) h.2.1 (hok.rs h.1.2)) A.st.pos
  have h81' : (mvs A.cf A.st.pos).length ≤ 81 := h81
  refine w_aload_n dX6_pass_0 rfl ?_
  refine x_getr (ci := 6) (k := 0) (a := gm sw) dX6_pass_1 rfl (by decide) (by decide) (by omega) fl_X6_12 (Or.inl ⟨_, rfl⟩) hl.2.2.2.2.1 ?_
  refine x_getr (ci := 0) (k := 3) (a := gm sw + 2) dX6_pass_4 hg.1 (by decide) (by decide) (by omega) fl_X6_85 (Or.inl ⟨_, rfl⟩) hg.2.2.2.2.1 ?_
  refine x_geti (ci := 4) (k := 2) dX6_pass_7 hg.2.2.2.2.2.1.1 (by decide) (by decide) (by omega) fl_X6_92 rfl ?_
  rw [h.2.2.2.2.2.1.2.2.1]
  refine y_callS dX6_pass_10 lk_X6_95 [.int (nI A.st.pos)] rfl (c_passesOf E l _ _) rfl ⟨⟨by decide, by decide⟩, by decide, by decide⟩ (lb rfl) ?_
  rw [passes_nI (by have := hok.pos; omega), hok.ps]
  refine w_if_eq (tgt := 23) dX6_pass_13 (by decide) (fun c_13 => absurd c_13 ((nI_ne0 (by omega) (by omega)))) (fun c_13 => ?_)
  refine w_aload_n dX6_pass_16 rfl ?_
  refine v_callV dX6_pass_17 lk_X6_121 [] rfl (c_listMoves E l hl h hn5) (g_recv.obj (ci := 6) rfl (by decide) (show 0 < N by omega)) rfl ⟨⟨by decide, by decide⟩, by decide, by decide⟩ (lb rfl) (fun x_17 I' h_17 => ?_)
  obtain ⟨e1, e2, e3, e4⟩ := h_17
  rw [e1]
  have hC := h.pr e3 e4
  refine w_if_ne (tgt := 34) dX6_pass_20 (by decide) (fun c_20 => ?_) (fun c_20 => absurd c_20 ((nI_ne0 (by omega) (by omega))))
  refine w_aload_n dX6_pass_34 rfl ?_
  refine y_callV dX6_pass_35 lk_X6_238 [] rfl (c_isRecordFull E l hl hC) (g_recv.obj (ci := 6) rfl (by decide) (show 0 < N by omega)) rfl ⟨⟨by decide, by decide⟩, by decide, by decide⟩ (lb rfl) ?_
  rw [decide_eq_true hf]
  refine w_if_eq (tgt := 43) dX6_pass_38 (by decide) (fun c_38 => absurd c_38 ((by decide))) (fun c_38 => ?_)
  refine w_iconst (v := (-1)) dX6_pass_41 (by decide) ?_
  refine w_iret dX6_pass_42 rfl rfl ⟨_, _, rfl, ⟨rfl, e3.m, hC⟩, rfl⟩ (by decide) (by decide)
set_option maxRecDepth 100000 in
theorem c_pass_x (hl : lk R N sw) (h : rC I J sw A n) (hn5 : n < 100000) (hp : ¬ (1 ≤ A.st.ps ∧ 0 < (mvs A.cf A.st.pos).length)) : g_Ct E l mX6_pass 6 123 1 6 [.ref 0] (I, J, R, D, N, ex) (g_rx "java/lang/IllegalStateException" (fun I' => frM I I' ∧ rC I' J sw A (n + 1)) J R D N) := by
  refine g_Ct.of (by decide +kernel) (lb rfl) ?_
  have hN := hl.2.2.2.2.2.2.2.2.2.2.2.2.2.2.2.2
  have hg := hl.1
  have hgm := gm_b sw
  have hok := h.2.2.2.2.1
  have h3 := hok.2.2.1
  have h81 := mvs_81 (cf_ok (mi := A.st.mi) h.2.1 (hok.rs h.1.2)) A.st.pos
  have h81' : (mvs A.cf A.st.pos).length ≤ 81 := h81
  refine w_aload_n dX6_pass_0 rfl ?_
  refine x_getr (ci := 6) (k := 0) (a := gm sw) dX6_pass_1 rfl (by decide) (by decide) (by omega) fl_X6_12 (Or.inl ⟨_, rfl⟩) hl.2.2.2.2.1 ?_
  refine x_getr (ci := 0) (k := 3) (a := gm sw + 2) dX6_pass_4 hg.1 (by decide) (by decide) (by omega) fl_X6_85 (Or.inl ⟨_, rfl⟩) hg.2.2.2.2.1 ?_
  refine x_geti (ci := 4) (k := 2) dX6_pass_7 hg.2.2.2.2.2.1.1 (by decide) (by decide) (by omega) fl_X6_92 rfl ?_
  rw [h.2.2.2.2.2.1.2.2.1]
  refine y_callS dX6_pass_10 lk_X6_95 [.int (nI A.st.pos)] rfl (c_passesOf E l _ _) rfl ⟨⟨by decide, by decide⟩, by decide, by decide⟩ (lb rfl) ?_
  rw [passes_nI (by have := hok.pos; omega), hok.ps]
  refine w_if_eq (tgt := 23) dX6_pass_13 (by decide) (fun c_13 => ?_) (fun c_13 => ?_)
  · refine w_throwW (X := "java/lang/IllegalStateException") (tx := "the pass is not a move") rfl rfl (by decide +kernel) (by decide +kernel) dX6_pass_23 dX6_pass_26 dX6_pass_27 dX6_pass_30 dX6_pass_33 (by decide) (lb rfl) (by decide) (by decide) (by decide) (by decide) (by first | exact ⟨_, rfl, ⟨e3.m, hC⟩, rfl⟩ | exact ⟨_, rfl, ⟨frM.refl I, h.mono (by omega)⟩, rfl⟩)
  · refine w_aload_n dX6_pass_16 rfl ?_
    refine v_callV dX6_pass_17 lk_X6_121 [] rfl (c_listMoves E l hl h hn5) (g_recv.obj (ci := 6) rfl (by decide) (show 0 < N by omega)) rfl ⟨⟨by decide, by decide⟩, by decide, by decide⟩ (lb rfl) (fun x_17 I' h_17 => ?_)
    obtain ⟨e1, e2, e3, e4⟩ := h_17
    rw [e1]
    have hC := h.pr e3 e4
    refine w_if_ne (tgt := 34) dX6_pass_20 (by decide) (fun c_20 => absurd ((by have h1 : ¬ A.st.ps = 0 := (fun q => c_13 (by rw [q]; rfl)); rw [show (mvs A.cf A.st.pos).length = 0 by omega]; rfl)) c_20) (fun c_20 => ?_)
    refine w_throwW (X := "java/lang/IllegalStateException") (tx := "the pass is not a move") rfl rfl (by decide +kernel) (by decide +kernel) dX6_pass_23 dX6_pass_26 dX6_pass_27 dX6_pass_30 dX6_pass_33 (by decide) (lb rfl) (by decide) (by decide) (by decide) (by decide) (by first | exact ⟨_, rfl, ⟨e3.m, hC⟩, rfl⟩ | exact ⟨_, rfl, ⟨frM.refl I, h.mono (by omega)⟩, rfl⟩)
end FL
