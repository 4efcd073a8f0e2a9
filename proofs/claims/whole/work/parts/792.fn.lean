/-! HeapGamesModel: finds, movesNow -/
theorem mvs_W {c : Cf} (hm : c.m ≤ 4) {p : Nat} {m : Mv} (h : m ∈ mvs c p) : mvW m := by
  have hk := mem_mvs h
  rcases m with y | y | y
  · obtain ⟨k1, k2, k3, _⟩ := hk
    have := dig_lt p y.1
    exact ⟨by omega, k2, by omega⟩
  · obtain ⟨k1, k2, k3, k4, k5, _⟩ := hk
    have := dig_lt p y.1
    exact ⟨k1, by omega, k3, by omega⟩
  · trivial
theorem cf_m (A : AS) : A.cf.m = A.st.hs.length := St.rs_len _
section MO
variable (E : GE) (l : Launch)
variable {I : Nat → Nat → Int32} {J : Nat → Nat → Int64} {R : Nat → Nat → Option Nat} {D : Nat → Nat → UInt64} {N : Nat} {ex : Bool} {A : AS} {c : Nat}
set_option maxRecDepth 100000 in
theorem m_finds (hR : lkM R N) (hA : aOK A) (h : rM I A c) (x : Int32) : g_Ct E l mX7_finds 4 93 0 0 [.ref 79, .int x] (I, J, R, D, N, ex) (g_ri (fun y I' => frZ I I' ∧ (fdF x (mvs A.cf A.st.pos) A.st y I' ∨ fdN x (mvs A.cf A.st.pos) y I')) J R D N ex) := by
  refine g_Ct.of (by decide +kernel) (lb rfl) ?_
  have hN := hR.1
  have hs := hA.2.2.1
  have h4 := hs.1
  have h6 := hA.1
  have cm := cf_m A
  have hok : ∀ m ∈ mvs A.cf A.st.pos, toC A.st m ≤ hAt A.st ∧ mvW m := fun m hm => ⟨(to_ok hs cm hm).1, mvs_W (by omega) hm⟩
  have hlen : (mvs A.cf A.st.pos).length ≤ 81 := mvs_81 (cf_ok hA.2.1 (hs.rs h6)) _
  have csh : A.cf.sh = A.ru.2.2.testBit := rfl
  have hdg : ∀ k, k < 4 → dig A.st.pos k = A.st.sz k := fun k hk => hs.dig hk
  have cal : ∀ k n a, k < A.st.hs.length → A.cf.al k n a = okA (A.ru.1 (A.st.rl k)) (A.ru.2.1 (A.st.rl k)) n a := fun k n a hk => by
    show okA (A.ru.1 (A.st.rs.getD k 0)) (A.ru.2.1 (A.st.rs.getD k 0)) n a = _
    rw [show A.st.rs.getD k 0 = A.st.rl k from map_getD.1]
  generalize hL : mvs A.cf A.st.pos = L at *
  have s130 : ∀ I' : Nat → Nat → Int32, frZ I I' → I' 79 49 = nI (mvP A.cf A.st.pos).length → (∀ i, i < (mvP A.cf A.st.pos).length → x ≠ nI i) → g_Wp E l mX7_finds { frames := 4, cells := 0, slots := 0, locals := 93 } (g_Fin E (g_ri (fun y I' => frZ I I' ∧ (fdF x L A.st y I' ∨ fdN x L y I')) J R D N ex) 0 0) 0 0 130 [(2, .int (nI A.st.hs.length)), (0, .ref 79), (1, .int x)] [] (I', J, R, D, N, ex) := by
    intro I' g1 g2 g3
    have e9 : I' 80 9 = nI A.st.ps := by rw [g1.1 80 (by decide)]; exact h.1.2.2.1
    have hps := hs.ps
    have hp3 := hs.2.2.1
    have hpl : (mvP A.cf A.st.pos).length ≤ 81 := by rw [← hL] at hlen; unfold mvs at hlen; rw [List.length_append] at hlen; omega
    by_cases hc : mvP A.cf A.st.pos ≠ [] ∧ 65536 ≤ A.st.pos
    · have hpp : 0 < A.st.ps := by omega
      have hll := List.length_pos_iff.mpr hc.1
      have em : mvP A.cf A.st.pos ++ [Mv.pass] = L := by rw [← hL]; unfold mvs; rw [if_pos hc]
      have hp9 : mvP A.cf A.st.pos ++ [Mv.pass] <+: L := by rw [em]; exact List.prefix_refl _
      have hk9 := hok _ (pre_in hp9)
      by_cases hxj : x = nI (mvP A.cf A.st.pos).length
      · refine w_aload_n dX7_finds_130 rfl ?_
        refine x_getr (ci := 7) (k := 0) (a := 80) dX7_finds_131 rfl (by decide) (by decide) (by omega) fl_X7_7 (Or.inr ⟨_, rfl⟩) hR.2.1 ?_
        refine w_bipush (v := 9) dX7_finds_134 (by decide) ?_
        refine x_iald (j := 9) dX7_finds_136 rfl (by omega) rfl (show 9 < 172 by decide) ?_
        rw [e9]
        refine w_if_le (tgt := 163) dX7_finds_137 (by decide) (fun c_137 => absurd c_137 ((fun q => absurd (n_le (b := 0) q) (by omega)))) (fun c_137 => ?_)
        refine w_aload_n dX7_finds_140 rfl ?_
        refine x_geti (ci := 7) (k := 49) dX7_finds_141 rfl (by decide) (by decide) (by omega) fl_X7_326 rfl ?_
        rw [g2]
        refine w_if_le (tgt := 163) dX7_finds_144 (by decide) (fun c_144 => absurd c_144 ((fun q => absurd (n_le (b := 0) q) (by omega)))) (fun c_144 => ?_)
        refine w_aload_n dX7_finds_147 rfl ?_
        refine w_iload_n dX7_finds_148 rfl ?_
        refine w_iconst (v := 2) dX7_finds_149 (by decide) ?_
        refine w_iconst (v := (-1)) dX7_finds_150 (by decide) ?_
        refine w_iconst (v := (-1)) dX7_finds_151 (by decide) ?_
        refine w_iconst (v := 0) dX7_finds_152 (by decide) ?_
        rw [hxj]
        refine v_callV dX7_finds_153 lk_X7_347 [.int (nI (mvP A.cf A.st.pos).length), .int (deS Mv.pass 0), .int (deS Mv.pass 1), .int (deS Mv.pass 2), .int (deS Mv.pass 3)] rfl (m_isIt_t E l hR hs (h.1.fr (g1.1 80 (by decide))) g2 hk9.1 hk9.2) (g_recv.obj (ci := 7) rfl (by decide) (show 79 < N by omega)) rfl ⟨⟨by decide, by decide⟩, by decide, by decide⟩ (lb rfl) (fun x_153 I2 h_153 => ?_)
        obtain ⟨k1, k2, k3⟩ := h_153
        refine w_if_eq (tgt := 163) dX7_finds_156 (by decide) (fun c_156 => absurd c_156 ((by rw [k1]; decide))) (fun c_156 => ?_)
        refine w_iconst (v := 1) dX7_finds_159 (by decide) ?_
        refine w_goto (tgt := 164) dX7_finds_160 (by decide) ?_
        refine w_iret dX7_finds_164 rfl rfl ⟨_, _, rfl, ⟨g1.trans k2, Or.inl ⟨_, _, rfl, pre_at hp9, rfl, k3⟩⟩, rfl⟩ (by decide) (by decide)
      · refine w_aload_n dX7_finds_130 rfl ?_
        refine x_getr (ci := 7) (k := 0) (a := 80) dX7_finds_131 rfl (by decide) (by decide) (by omega) fl_X7_7 (Or.inr ⟨_, rfl⟩) hR.2.1 ?_
        refine w_bipush (v := 9) dX7_finds_134 (by decide) ?_
        refine x_iald (j := 9) dX7_finds_136 rfl (by omega) rfl (show 9 < 172 by decide) ?_
        rw [e9]
        refine w_if_le (tgt := 163) dX7_finds_137 (by decide) (fun c_137 => absurd c_137 ((fun q => absurd (n_le (b := 0) q) (by omega)))) (fun c_137 => ?_)
        refine w_aload_n dX7_finds_140 rfl ?_
        refine x_geti (ci := 7) (k := 49) dX7_finds_141 rfl (by decide) (by decide) (by omega) fl_X7_326 rfl ?_
        rw [g2]
        refine w_if_le (tgt := 163) dX7_finds_144 (by decide) (fun c_144 => absurd c_144 ((fun q => absurd (n_le (b := 0) q) (by omega)))) (fun c_144 => ?_)
        refine w_aload_n dX7_finds_147 rfl ?_
        refine w_iload_n dX7_finds_148 rfl ?_
        refine w_iconst (v := 2) dX7_finds_149 (by decide) ?_
        refine w_iconst (v := (-1)) dX7_finds_150 (by decide) ?_
        refine w_iconst (v := (-1)) dX7_finds_151 (by decide) ?_
        refine w_iconst (v := 0) dX7_finds_152 (by decide) ?_
        refine y_callV dX7_finds_153 lk_X7_347 [.int x, .int 2, .int (-1), .int (-1), .int 0] rfl (m_isIt_f E l hR g2 hxj _ _ _ _) (g_recv.obj (ci := 7) rfl (by decide) (show 79 < N by omega)) rfl ⟨⟨by decide, by decide⟩, by decide, by decide⟩ (lb rfl) ?_
        refine w_if_eq (tgt := 163) dX7_finds_156 (by decide) (fun c_156 => ?_) (fun c_156 => absurd (rfl) c_156)
        refine w_iconst (v := 0) dX7_finds_163 (by decide) ?_
        refine w_iret dX7_finds_164 rfl rfl ⟨_, _, rfl, ⟨g1.up (by decide) _, Or.inr ⟨rfl, by rw [up2_s, ← em, List.length_append]; rfl, by rw [← em]; exact fd_more g3 hxj⟩⟩, rfl⟩ (by decide) (by decide)
    · have em : mvP A.cf A.st.pos = L := by rw [← hL]; unfold mvs; rw [if_neg hc, List.append_nil]
      by_cases hp0 : A.st.ps = 0
      · refine w_aload_n dX7_finds_130 rfl ?_
        refine x_getr (ci := 7) (k := 0) (a := 80) dX7_finds_131 rfl (by decide) (by decide) (by omega) fl_X7_7 (Or.inr ⟨_, rfl⟩) hR.2.1 ?_
        refine w_bipush (v := 9) dX7_finds_134 (by decide) ?_
        refine x_iald (j := 9) dX7_finds_136 rfl (by omega) rfl (show 9 < 172 by decide) ?_
        rw [e9, hp0]
        refine w_if_le (tgt := 163) dX7_finds_137 (by decide) (fun c_137 => ?_) (fun c_137 => absurd ((show nI 0 ≤ 0 from by decide)) c_137)
        refine w_iconst (v := 0) dX7_finds_163 (by decide) ?_
        refine w_iret dX7_finds_164 rfl rfl ⟨_, _, rfl, ⟨g1, Or.inr ⟨rfl, by rw [← em]; exact g2, by rw [← em]; exact g3⟩⟩, rfl⟩ (by decide) (by decide)
      · have hl0 : (mvP A.cf A.st.pos).length = 0 := by
          rcases Nat.eq_zero_or_pos (mvP A.cf A.st.pos).length with z | z
          · exact z
          · exact absurd ⟨List.length_pos_iff.mp z, by omega⟩ hc
        refine w_aload_n dX7_finds_130 rfl ?_
        refine x_getr (ci := 7) (k := 0) (a := 80) dX7_finds_131 rfl (by decide) (by decide) (by omega) fl_X7_7 (Or.inr ⟨_, rfl⟩) hR.2.1 ?_
        refine w_bipush (v := 9) dX7_finds_134 (by decide) ?_
        refine x_iald (j := 9) dX7_finds_136 rfl (by omega) rfl (show 9 < 172 by decide) ?_
        rw [e9]
        refine w_if_le (tgt := 163) dX7_finds_137 (by decide) (fun c_137 => absurd c_137 ((fun q => absurd (n_le (b := 0) q) (by omega)))) (fun c_137 => ?_)
        refine w_aload_n dX7_finds_140 rfl ?_
        refine x_geti (ci := 7) (k := 49) dX7_finds_141 rfl (by decide) (by decide) (by omega) fl_X7_326 rfl ?_
        rw [g2, hl0]
        refine w_if_le (tgt := 163) dX7_finds_144 (by decide) (fun c_144 => ?_) (fun c_144 => absurd ((show nI 0 ≤ 0 from by decide)) c_144)
        refine w_iconst (v := 0) dX7_finds_163 (by decide) ?_
        refine w_iret dX7_finds_164 rfl rfl ⟨_, _, rfl, ⟨g1, Or.inr ⟨rfl, by rw [← em]; exact g2, by rw [← em]; exact g3⟩⟩, rfl⟩ (by decide) (by decide)
  have s82 : ∀ (f k : Nat) (I' : Nat → Nat → Int32), k + f = A.st.hs.length → frZ I I' → I' 79 49 = nI (mvT A.cf A.st.pos A.cf.m ++ mvB A.cf A.st.pos k).length → (∀ i, i < (mvT A.cf A.st.pos A.cf.m ++ mvB A.cf A.st.pos k).length → x ≠ nI i) → g_Wp E l mX7_finds { frames := 4, cells := 0, slots := 0, locals := 93 } (g_Fin E (g_ri (fun y I' => frZ I I' ∧ (fdF x L A.st y I' ∨ fdN x L y I')) J R D N ex) 0 0) 0 0 82 [(2, .int (nI k)), (0, .ref 79), (1, .int x)] [] (I', J, R, D, N, ex) := by
    intro f
    induction f with
    | zero =>
      intro k I' hk g1 g2 g3
      obtain rfl : k = A.st.hs.length := by omega
      have e0 : I' 80 0 = nI A.st.hs.length := by rw [g1.1 80 (by decide)]; exact h.1.1
      have e9 : mvT A.cf A.st.pos A.cf.m ++ mvB A.cf A.st.pos A.st.hs.length = mvP A.cf A.st.pos := by rw [← cm]; rfl
      rw [e9] at g2 g3
      refine w_iload_n dX7_finds_82 rfl ?_
      refine w_aload_n dX7_finds_83 rfl ?_
      refine x_getr (ci := 7) (k := 0) (a := 80) dX7_finds_84 rfl (by decide) (by decide) (by omega) fl_X7_7 (Or.inr ⟨_, rfl⟩) hR.2.1 ?_
      refine w_iconst (v := 0) dX7_finds_87 (by decide) ?_
      refine x_iald (j := 0) dX7_finds_88 rfl (by omega) rfl (show 0 < 172 by decide) ?_
      rw [e0]
      refine w_icmp_ge (tgt := 130) dX7_finds_89 (by decide) (fun c_89 => ?_) (fun c_89 => absurd ((nI_le (by omega) (by omega))) c_89)
      exact w_lv [2, 0, 1] (s130 I' g1 g2 g3)
    | succ f ih =>
      intro k I' hk g1 g2 g3
      have t8 := ih (k + 1)
      rw [mvB] at t8
      have s96 : ∀ (f2 o : Nat) (I' : Nat → Nat → Int32), o + f2 = A.st.hs.length → k < o → frZ I I' → I' 79 49 = nI (mvT A.cf A.st.pos A.cf.m ++ (mvB A.cf A.st.pos k ++ mvS A.cf A.st.pos k o)).length → (∀ i, i < (mvT A.cf A.st.pos A.cf.m ++ (mvB A.cf A.st.pos k ++ mvS A.cf A.st.pos k o)).length → x ≠ nI i) → g_Wp E l mX7_finds { frames := 4, cells := 0, slots := 0, locals := 93 } (g_Fin E (g_ri (fun y I' => frZ I I' ∧ (fdF x L A.st y I' ∨ fdN x L y I')) J R D N ex) 0 0) 0 0 96 [(3, .int (nI o)), (2, .int (nI k)), (0, .ref 79), (1, .int x)] [] (I', J, R, D, N, ex) := by
        intro f2
        induction f2 with
        | zero =>
          intro o I' ho hko g1 g2 g3
          obtain rfl : o = A.st.hs.length := by omega
          have e0 : I' 80 0 = nI A.st.hs.length := by rw [g1.1 80 (by decide)]; exact h.1.1
          rw [← cm] at g2 g3
          refine w_iload_n dX7_finds_96 rfl ?_
          refine w_aload_n dX7_finds_97 rfl ?_
          refine x_getr (ci := 7) (k := 0) (a := 80) dX7_finds_98 rfl (by decide) (by decide) (by omega) fl_X7_7 (Or.inr ⟨_, rfl⟩) hR.2.1 ?_
          refine w_iconst (v := 0) dX7_finds_101 (by decide) ?_
          refine x_iald (j := 0) dX7_finds_102 rfl (by omega) rfl (show 0 < 172 by decide) ?_
          rw [e0]
          refine w_icmp_ge (tgt := 124) dX7_finds_103 (by decide) (fun c_103 => ?_) (fun c_103 => absurd ((nI_le (by omega) (by omega))) c_103)
          refine w_iinc (v := nI (k + 1)) dX7_finds_124 rfl (nI_inc _) (by decide) rfl ?_
          refine w_goto (tgt := 82) dX7_finds_127 (by decide) ?_
          exact w_lv [2, 0, 1] (t8 I' (by omega) g1 g2 g3)
        | succ f2 ih2 =>
          intro o I' ho hko g1 g2 g3
          have e0 : I' 80 0 = nI A.st.hs.length := by rw [g1.1 80 (by decide)]; exact h.1.1
          have t9 := ih2 (o + 1)
          have hpre := pre_B (c := A.cf) (p := A.st.pos) (h := k) (o := o + 1) (by omega) (by omega)
          rw [mvS, if_pos hko, hdg k (by omega), hdg o (by omega), csh, ← List.append_assoc (mvB A.cf A.st.pos k), ← List.append_assoc (mvT A.cf A.st.pos A.cf.m)] at t9 hpre
          rw [hL] at hpre
          generalize hLq : mvT A.cf A.st.pos A.cf.m ++ (mvB A.cf A.st.pos k ++ mvS A.cf A.st.pos k o) = Lq at *
          refine w_iload_n dX7_finds_96 rfl ?_
          refine w_aload_n dX7_finds_97 rfl ?_
          refine x_getr (ci := 7) (k := 0) (a := 80) dX7_finds_98 rfl (by decide) (by decide) (by omega) fl_X7_7 (Or.inr ⟨_, rfl⟩) hR.2.1 ?_
          refine w_iconst (v := 0) dX7_finds_101 (by decide) ?_
          refine x_iald (j := 0) dX7_finds_102 rfl (by omega) rfl (show 0 < 172 by decide) ?_
          rw [e0]
          refine w_icmp_ge (tgt := 124) dX7_finds_103 (by decide) (fun c_103 => absurd c_103 ((nI_ge (by omega) (by omega)))) (fun c_103 => ?_)
          refine w_aload_n dX7_finds_106 rfl ?_
          refine w_iload_n dX7_finds_107 rfl ?_
          refine w_iload_n dX7_finds_108 rfl ?_
          refine w_iload_n dX7_finds_109 rfl ?_
          refine v_callV dX7_finds_110 lk_X7_351 [.int x, .int (nI k), .int (nI o)] rfl (m_findsShared E l hR hs (h.1.fr (g1.1 80 (by decide))) (sm := A.ru.2.2) ((g1.2 16 (by decide)).trans h.2.2.2.1.2.2) hA.2.1.2.2 hko (by omega) g2 g3 hpre hok) (g_recv.obj (ci := 7) rfl (by decide) (show 79 < N by omega)) rfl ⟨⟨by decide, by decide⟩, by decide, by decide⟩ (lb rfl) (fun x_110 I2 h_110 => ?_)
          obtain ⟨k1, k2⟩ := h_110
          refine w_if_eq (tgt := 118) dX7_finds_113 (by decide) (fun c_113 => ?_) (fun c_113 => ?_)
          · have k3 := (show fdN x _ x_110 I2 from by rcases k2 with q | q; (obtain ⟨_, _, _, _, q, _⟩ := q; rw [q] at c_113; exact absurd c_113 (by decide)); exact q)
            refine w_iinc (v := nI (o + 1)) dX7_finds_118 rfl (nI_inc _) (by decide) rfl ?_
            refine w_goto (tgt := 96) dX7_finds_121 (by decide) ?_
            exact w_lv [3, 2, 0, 1] (t9 I2 (by omega) (by omega) (g1.trans k1) k3.2.1 k3.2.2)
          · refine w_iconst (v := 1) dX7_finds_116 (by decide) ?_
            have k3 : fdF x L A.st x_110 I2 := (by rcases k2 with q | q; exact q; exact absurd q.1 c_113)
            have e1 : x_110 = b2i true := (by obtain ⟨_, _, _, _, q, _⟩ := k3; exact q)
            have k4 : fdF x L A.st 1 I2 := (by obtain ⟨i, m, q1, q2, q3, q4⟩ := k3; exact ⟨i, m, q1, q2, rfl, q4⟩)
            refine w_iret dX7_finds_117 rfl rfl ⟨_, _, rfl, ⟨g1.trans k1, Or.inl k4⟩, rfl⟩ (by decide) (by decide)
      have e0 : I' 80 0 = nI A.st.hs.length := by rw [g1.1 80 (by decide)]; exact h.1.1
      refine w_iload_n dX7_finds_82 rfl ?_
      refine w_aload_n dX7_finds_83 rfl ?_
      refine x_getr (ci := 7) (k := 0) (a := 80) dX7_finds_84 rfl (by decide) (by decide) (by omega) fl_X7_7 (Or.inr ⟨_, rfl⟩) hR.2.1 ?_
      refine w_iconst (v := 0) dX7_finds_87 (by decide) ?_
      refine x_iald (j := 0) dX7_finds_88 rfl (by omega) rfl (show 0 < 172 by decide) ?_
      rw [e0]
      refine w_icmp_ge (tgt := 130) dX7_finds_89 (by decide) (fun c_89 => absurd c_89 ((nI_ge (by omega) (by omega)))) (fun c_89 => ?_)
      refine w_iload_n dX7_finds_92 rfl ?_
      refine w_iconst (v := 1) dX7_finds_93 (by decide) ?_
      refine w_iadd dX7_finds_94 ?_
      rw [nI_1]
      refine w_istore_n dX7_finds_95 (by decide) rfl ?_
      exact w_lv [3, 2, 0, 1] (s96 (A.st.hs.length - (k + 1)) (k + 1) I' (by omega) (by omega) g1 (by rw [mvS_nil _ _ _ _ (Nat.le_refl _), List.append_nil]; exact g2) (by rw [mvS_nil _ _ _ _ (Nat.le_refl _), List.append_nil]; exact g3))
  have s7 : ∀ (f k : Nat) (I' : Nat → Nat → Int32), k + f = A.st.hs.length → frZ I I' → I' 79 49 = nI (mvT A.cf A.st.pos k).length → (∀ i, i < (mvT A.cf A.st.pos k).length → x ≠ nI i) → g_Wp E l mX7_finds { frames := 4, cells := 0, slots := 0, locals := 93 } (g_Fin E (g_ri (fun y I' => frZ I I' ∧ (fdF x L A.st y I' ∨ fdN x L y I')) J R D N ex) 0 0) 0 0 7 [(2, .int (nI k)), (0, .ref 79), (1, .int x)] [] (I', J, R, D, N, ex) := by
    intro f
    induction f with
    | zero =>
      intro k I' hk g1 g2 g3
      obtain rfl : k = A.st.hs.length := by omega
      have e0 : I' 80 0 = nI A.st.hs.length := by rw [g1.1 80 (by decide)]; exact h.1.1
      rw [← cm] at g2 g3
      refine w_iload_n dX7_finds_7 rfl ?_
      refine w_aload_n dX7_finds_8 rfl ?_
      refine x_getr (ci := 7) (k := 0) (a := 80) dX7_finds_9 rfl (by decide) (by decide) (by omega) fl_X7_7 (Or.inr ⟨_, rfl⟩) hR.2.1 ?_
      refine w_iconst (v := 0) dX7_finds_12 (by decide) ?_
      refine x_iald (j := 0) dX7_finds_13 rfl (by omega) rfl (show 0 < 172 by decide) ?_
      rw [e0]
      refine w_icmp_ge (tgt := 80) dX7_finds_14 (by decide) (fun c_14 => ?_) (fun c_14 => absurd ((nI_le (by omega) (by omega))) c_14)
      refine w_iconst (v := 0) dX7_finds_80 (by decide) ?_
      refine w_istore_n dX7_finds_81 (by decide) rfl ?_
      exact w_lv [2, 0, 1] (s82 A.st.hs.length 0 I' (by omega) g1 (by rw [show mvB A.cf A.st.pos 0 = [] from rfl, List.append_nil]; exact g2) (by rw [show mvB A.cf A.st.pos 0 = [] from rfl, List.append_nil]; exact g3))
    | succ f ih =>
      intro k I' hk g1 g2 g3
      have hkl : k < A.st.hs.length := by omega
      have hrl := hs.rl hkl
      have hsz := hs.sz k
      have t8 := ih (k + 1)
      rw [mvT, hdg k (by omega)] at t8
      obtain ⟨al, hm1, hm2⟩ := h.2.2.2.1.2.1 _ hrl
      have s29 : ∀ (f2 a : Nat) (I' : Nat → Nat → Int32), a + f2 = A.st.sz k → frZ I I' → I' 79 49 = nI (mvT A.cf A.st.pos k ++ (amt (A.cf.al k (A.st.sz k)) a).map (Mv.take k)).length → (∀ i, i < (mvT A.cf A.st.pos k ++ (amt (A.cf.al k (A.st.sz k)) a).map (Mv.take k)).length → x ≠ nI i) → g_Wp E l mX7_finds { frames := 4, cells := 0, slots := 0, locals := 93 } (g_Fin E (g_ri (fun y I' => frZ I I' ∧ (fdF x L A.st y I' ∨ fdN x L y I')) J R D N ex) 0 0) 0 0 29 [(4, .int (nI (a + 1))), (3, .int (nI (A.st.sz k))), (2, .int (nI k)), (0, .ref 79), (1, .int x)] [] (I', J, R, D, N, ex) := by
        intro f2
        induction f2 with
        | zero =>
          intro a I' ha g1 g2 g3
          obtain rfl : a = A.st.sz k := by omega
          refine w_iload dX7_finds_29 rfl ?_
          refine w_iload_n dX7_finds_31 rfl ?_
          refine w_icmp_gt (tgt := 74) dX7_finds_32 (by decide) (fun c_32 => ?_) (fun c_32 => absurd ((nI_lt (by omega) (by omega))) c_32)
          refine w_iinc (v := nI (k + 1)) dX7_finds_74 rfl (nI_inc _) (by decide) rfl ?_
          refine w_goto (tgt := 7) dX7_finds_77 (by decide) ?_
          exact w_lv [2, 0, 1] (t8 I' (by omega) g1 g2 g3)
        | succ f2 ih2 =>
          intro a I' ha g1 g2 g3
          have t9 := ih2 (a + 1)
          rw [show amt (A.cf.al k (A.st.sz k)) (a + 1) = amt (A.cf.al k (A.st.sz k)) a ++ (if A.cf.al k (A.st.sz k) (a + 1) then [a + 1] else []) from rfl] at t9
          have e1 : I' 80 (1 + k) = nI (A.st.rl k) := by rw [g1.1 80 (by decide)]; have := (h.1.2.1 k hkl).1; rw [show 0 + 1 + k = 1 + k by omega] at this; exact this
          have hcb : okI (A.ru.1 (A.st.rl k)) (alS al) (A.st.sz k) (nI (a + 1)) = A.cf.al k (A.st.sz k) (a + 1) := by rw [okI_nI (by omega) (by omega), cal k _ _ hkl, hm2]
          have hpre := pre_T (c := A.cf) (p := A.st.pos) (k := k) (a := a + 1) (by omega) (by rw [hdg k (by omega)]; omega)
          rw [hdg k (by omega), show amt (A.cf.al k (A.st.sz k)) (a + 1) = amt (A.cf.al k (A.st.sz k)) a ++ (if A.cf.al k (A.st.sz k) (a + 1) then [a + 1] else []) from rfl, hL] at hpre
          have hm1' := hm1.fr (I' := I') (fun o _ _ => g1.1 o (by omega))
          cases hb : A.cf.al k (A.st.sz k) (a + 1) with
          | false =>
            rw [hb, if_neg (by decide), List.append_nil] at t9
            refine w_iload dX7_finds_29 rfl ?_
            refine w_iload_n dX7_finds_31 rfl ?_
            refine w_icmp_gt (tgt := 74) dX7_finds_32 (by decide) (fun c_32 => absurd c_32 ((nI_nlt (by omega) (by omega)))) (fun c_32 => ?_)
            refine w_aload_n dX7_finds_35 rfl ?_
            refine w_aload_n dX7_finds_36 rfl ?_
            refine x_getr (ci := 7) (k := 0) (a := 80) dX7_finds_37 rfl (by decide) (by decide) (by omega) fl_X7_7 (Or.inr ⟨_, rfl⟩) hR.2.1 ?_
            refine w_iconst (v := 1) dX7_finds_40 (by decide) ?_
            refine w_iload_n dX7_finds_41 rfl ?_
            refine w_iadd dX7_finds_42 ?_
            rw [show (1 : Int32) + nI k = nI (1 + k) from by rw [← nI_add]; rfl]
            refine x_iald (j := 1 + k) dX7_finds_43 rfl (by omega) rfl (show 1 + k < 172 by omega) ?_
            rw [e1]
            refine w_iload_n dX7_finds_44 rfl ?_
            refine w_iload dX7_finds_45 rfl ?_
            refine y_callV dX7_finds_47 lk_X7_92 [.int (nI (A.st.rl k)), .int (nI (A.st.sz k)), .int (nI (a + 1))] rfl (m_allows E l hR (by omega) hm1' (by omega) _) (g_recv.obj (ci := 7) rfl (by decide) (show 79 < N by omega)) rfl ⟨⟨by decide, by decide⟩, by decide, by decide⟩ (lb rfl) ?_
            rw [hcb, hb]
            refine w_if_eq (tgt := 68) dX7_finds_50 (by decide) (fun c_50 => ?_) (fun c_50 => absurd (rfl) c_50)
            refine w_iinc (v := nI (a + 1 + 1)) dX7_finds_68 rfl (nI_inc _) (by decide) rfl ?_
            refine w_goto (tgt := 29) dX7_finds_71 (by decide) ?_
            exact w_lv [4, 3, 2, 0, 1] (t9 I' (by omega) g1 g2 g3)
          | true =>
            rw [hb, if_pos rfl, List.map_append, ← List.append_assoc] at t9 hpre
            have hk9 := hok _ (pre_in hpre)
            generalize hLq : mvT A.cf A.st.pos k ++ (amt (A.cf.al k (A.st.sz k)) a).map (Mv.take k) = Lq at *
            by_cases hxj : x = nI Lq.length
            · refine w_iload dX7_finds_29 rfl ?_
              refine w_iload_n dX7_finds_31 rfl ?_
              refine w_icmp_gt (tgt := 74) dX7_finds_32 (by decide) (fun c_32 => absurd c_32 ((nI_nlt (by omega) (by omega)))) (fun c_32 => ?_)
              refine w_aload_n dX7_finds_35 rfl ?_
              refine w_aload_n dX7_finds_36 rfl ?_
              refine x_getr (ci := 7) (k := 0) (a := 80) dX7_finds_37 rfl (by decide) (by decide) (by omega) fl_X7_7 (Or.inr ⟨_, rfl⟩) hR.2.1 ?_
              refine w_iconst (v := 1) dX7_finds_40 (by decide) ?_
              refine w_iload_n dX7_finds_41 rfl ?_
              refine w_iadd dX7_finds_42 ?_
              rw [show (1 : Int32) + nI k = nI (1 + k) from by rw [← nI_add]; rfl]
              refine x_iald (j := 1 + k) dX7_finds_43 rfl (by omega) rfl (show 1 + k < 172 by omega) ?_
              rw [e1]
              refine w_iload_n dX7_finds_44 rfl ?_
              refine w_iload dX7_finds_45 rfl ?_
              refine y_callV dX7_finds_47 lk_X7_92 [.int (nI (A.st.rl k)), .int (nI (A.st.sz k)), .int (nI (a + 1))] rfl (m_allows E l hR (by omega) hm1' (by omega) _) (g_recv.obj (ci := 7) rfl (by decide) (show 79 < N by omega)) rfl ⟨⟨by decide, by decide⟩, by decide, by decide⟩ (lb rfl) ?_
              rw [hcb, hb]
              refine w_if_eq (tgt := 68) dX7_finds_50 (by decide) (fun c_50 => absurd c_50 ((by decide))) (fun c_50 => ?_)
              refine w_aload_n dX7_finds_53 rfl ?_
              refine w_iload_n dX7_finds_54 rfl ?_
              refine w_iconst (v := 0) dX7_finds_55 (by decide) ?_
              refine w_iload_n dX7_finds_56 rfl ?_
              refine w_iconst (v := (-1)) dX7_finds_57 (by decide) ?_
              refine w_iload dX7_finds_58 rfl ?_
              rw [hxj]
              refine v_callV dX7_finds_60 lk_X7_347 [.int (nI Lq.length), .int (deS (Mv.take k (a + 1)) 0), .int (deS (Mv.take k (a + 1)) 1), .int (deS (Mv.take k (a + 1)) 2), .int (deS (Mv.take k (a + 1)) 3)] rfl (m_isIt_t E l hR hs (h.1.fr (g1.1 80 (by decide))) g2 hk9.1 hk9.2) (g_recv.obj (ci := 7) rfl (by decide) (show 79 < N by omega)) rfl ⟨⟨by decide, by decide⟩, by decide, by decide⟩ (lb rfl) (fun x_60 I2 h_60 => ?_)
              obtain ⟨k1, k2, k3⟩ := h_60
              refine w_if_eq (tgt := 68) dX7_finds_63 (by decide) (fun c_63 => absurd c_63 ((by rw [k1]; decide))) (fun c_63 => ?_)
              refine w_iconst (v := 1) dX7_finds_66 (by decide) ?_
              refine w_iret dX7_finds_67 rfl rfl ⟨_, _, rfl, ⟨g1.trans k2, Or.inl ⟨_, _, rfl, pre_at hpre, rfl, k3⟩⟩, rfl⟩ (by decide) (by decide)
            · refine w_iload dX7_finds_29 rfl ?_
              refine w_iload_n dX7_finds_31 rfl ?_
              refine w_icmp_gt (tgt := 74) dX7_finds_32 (by decide) (fun c_32 => absurd c_32 ((nI_nlt (by omega) (by omega)))) (fun c_32 => ?_)
              refine w_aload_n dX7_finds_35 rfl ?_
              refine w_aload_n dX7_finds_36 rfl ?_
              refine x_getr (ci := 7) (k := 0) (a := 80) dX7_finds_37 rfl (by decide) (by decide) (by omega) fl_X7_7 (Or.inr ⟨_, rfl⟩) hR.2.1 ?_
              refine w_iconst (v := 1) dX7_finds_40 (by decide) ?_
              refine w_iload_n dX7_finds_41 rfl ?_
              refine w_iadd dX7_finds_42 ?_
              rw [show (1 : Int32) + nI k = nI (1 + k) from by rw [← nI_add]; rfl]
              refine x_iald (j := 1 + k) dX7_finds_43 rfl (by omega) rfl (show 1 + k < 172 by omega) ?_
              rw [e1]
              refine w_iload_n dX7_finds_44 rfl ?_
              refine w_iload dX7_finds_45 rfl ?_
              refine y_callV dX7_finds_47 lk_X7_92 [.int (nI (A.st.rl k)), .int (nI (A.st.sz k)), .int (nI (a + 1))] rfl (m_allows E l hR (by omega) hm1' (by omega) _) (g_recv.obj (ci := 7) rfl (by decide) (show 79 < N by omega)) rfl ⟨⟨by decide, by decide⟩, by decide, by decide⟩ (lb rfl) ?_
              rw [hcb, hb]
              refine w_if_eq (tgt := 68) dX7_finds_50 (by decide) (fun c_50 => absurd c_50 ((by decide))) (fun c_50 => ?_)
              refine w_aload_n dX7_finds_53 rfl ?_
              refine w_iload_n dX7_finds_54 rfl ?_
              refine w_iconst (v := 0) dX7_finds_55 (by decide) ?_
              refine w_iload_n dX7_finds_56 rfl ?_
              refine w_iconst (v := (-1)) dX7_finds_57 (by decide) ?_
              refine w_iload dX7_finds_58 rfl ?_
              refine y_callV dX7_finds_60 lk_X7_347 [.int x, .int 0, .int (nI k), .int (-1), .int (nI (a + 1))] rfl (m_isIt_f E l hR g2 hxj _ _ _ _) (g_recv.obj (ci := 7) rfl (by decide) (show 79 < N by omega)) rfl ⟨⟨by decide, by decide⟩, by decide, by decide⟩ (lb rfl) ?_
              refine w_if_eq (tgt := 68) dX7_finds_63 (by decide) (fun c_63 => ?_) (fun c_63 => absurd (rfl) c_63)
              refine w_iinc (v := nI (a + 1 + 1)) dX7_finds_68 rfl (nI_inc _) (by decide) rfl ?_
              refine w_goto (tgt := 29) dX7_finds_71 (by decide) ?_
              exact w_lv [4, 3, 2, 0, 1] (t9 _ (by omega) (g1.up (by decide) _) (by rw [up2_s, List.length_append]; rfl) (fd_more g3 hxj))
      have e0 : I' 80 0 = nI A.st.hs.length := by rw [g1.1 80 (by decide)]; exact h.1.1
      have e5 : I' 80 (5 + k) = nI (A.st.sz k) := by rw [g1.1 80 (by decide)]; have := (h.1.2.1 k hkl).2; rw [show 0 + 5 + k = 5 + k by omega] at this; exact this
      refine w_iload_n dX7_finds_7 rfl ?_
      refine w_aload_n dX7_finds_8 rfl ?_
      refine x_getr (ci := 7) (k := 0) (a := 80) dX7_finds_9 rfl (by decide) (by decide) (by omega) fl_X7_7 (Or.inr ⟨_, rfl⟩) hR.2.1 ?_
      refine w_iconst (v := 0) dX7_finds_12 (by decide) ?_
      refine x_iald (j := 0) dX7_finds_13 rfl (by omega) rfl (show 0 < 172 by decide) ?_
      rw [e0]
      refine w_icmp_ge (tgt := 80) dX7_finds_14 (by decide) (fun c_14 => absurd c_14 ((nI_ge (by omega) (by omega)))) (fun c_14 => ?_)
      refine w_aload_n dX7_finds_17 rfl ?_
      refine x_getr (ci := 7) (k := 0) (a := 80) dX7_finds_18 rfl (by decide) (by decide) (by omega) fl_X7_7 (Or.inr ⟨_, rfl⟩) hR.2.1 ?_
      refine w_iconst (v := 5) dX7_finds_21 (by decide) ?_
      refine w_iload_n dX7_finds_22 rfl ?_
      refine w_iadd dX7_finds_23 ?_
      rw [show (5 : Int32) + nI k = nI (5 + k) from by rw [← nI_add]; rfl]
      refine x_iald (j := 5 + k) dX7_finds_24 rfl (by omega) rfl (show 5 + k < 172 by omega) ?_
      rw [e5]
      refine w_istore_n dX7_finds_25 (by decide) rfl ?_
      refine w_iconst (v := 1) dX7_finds_26 (by decide) ?_
      refine w_istore dX7_finds_27 (by decide) rfl ?_
      exact w_lv [4, 3, 2, 0, 1] (s29 (A.st.sz k) 0 I' (by omega) g1 (by rw [show amt (A.cf.al k (A.st.sz k)) 0 = [] from rfl, List.map_nil, List.append_nil]; exact g2) (by rw [show amt (A.cf.al k (A.st.sz k)) 0 = [] from rfl, List.map_nil, List.append_nil]; exact g3))
  refine w_aload_n dX7_finds_0 rfl ?_
  refine w_iconst (v := 0) dX7_finds_1 (by decide) ?_
  refine x_puti (ci := 7) (k := 49) dX7_finds_2 rfl (by decide) (by decide) (by omega) fl_X7_326 rfl rfl ?_
  refine w_iconst (v := 0) dX7_finds_5 (by decide) ?_
  refine w_istore_n dX7_finds_6 (by decide) rfl ?_
  exact w_lv [2, 0, 1] (s7 A.st.hs.length 0 _ (by omega) ((frZ.refl I).up (by decide) _) (up2_s ..) (fun i hi => absurd hi (Nat.not_lt_zero i)))
theorem fd_none {x : Int32} {L : List Mv} (hL : L.length ≤ 81) (hx : x = -1) {s : St} {y : Int32} {I' : Nat → Nat → Int32} (h : fdF x L s y I' ∨ fdN x L y I') : fdN x L y I' := by
  rcases h with ⟨i, m, q1, q2, _⟩ | h
  · exfalso
    rw [hx] at q1
    have hi : i < L.length := by
      rcases Nat.lt_or_ge i L.length with z | z
      · exact z
      · rw [List.getElem?_eq_none z] at q2; cases q2
    have := congrArg Int32.toInt q1
    rw [nI_toInt (by omega)] at this
    have e : (-1 : Int32).toInt = -1 := rfl
    omega
  · exact h
set_option maxRecDepth 100000 in
theorem m_movesNow (hR : lkM R N) (hA : aOK A) (h : rM I A c) : g_Ct E l mX7_movesNow 5 117 0 0 [.ref 79] (I, J, R, D, N, ex) (g_ri (fun y I' => y = nI (mvs A.cf A.st.pos).length ∧ frZ I I') J R D N ex) := by
  refine g_Ct.of (by decide +kernel) (lb rfl) ?_
  have hN := hR.1
  have hlen : (mvs A.cf A.st.pos).length ≤ 81 := mvs_81 (cf_ok hA.2.1 (hA.2.2.1.rs hA.1)) _
  refine w_aload_n dX7_movesNow_0 rfl ?_
  refine w_iconst (v := (-1)) dX7_movesNow_1 (by decide) ?_
  refine v_callV dX7_movesNow_2 lk_X7_354 [.int (-1)] rfl (m_finds E l hR hA h (-1)) (g_recv.obj (ci := 7) rfl (by decide) (show 79 < N by omega)) rfl ⟨⟨by decide, by decide⟩, by decide, by decide⟩ (lb rfl) (fun x_2 I2 h_2 => ?_)
  obtain ⟨k1, k2⟩ := h_2
  have k3 := fd_none hlen rfl k2
  refine w_istore_n dX7_movesNow_5 (by decide) rfl ?_
  refine w_aload_n dX7_movesNow_6 rfl ?_
  refine x_geti (ci := 7) (k := 49) dX7_movesNow_7 rfl (by decide) (by decide) (by omega) fl_X7_326 rfl ?_
  rw [k3.2.1]
  refine w_iret dX7_movesNow_10 rfl rfl ⟨_, _, rfl, ⟨rfl, k1⟩, rfl⟩ (by decide) (by decide)
end MO
