/-! HeapGamesModel: states copied and changed; keeps, plays -/
theorem getD_lt {α : Type} {l : List α} {k : Nat} {d : α} (h : k < l.length) : l.getD k d = l[k] := by rw [List.getD_eq_getElem?_getD, List.getElem?_eq_getElem h]; rfl
theorem put_rl {s : St} {h : Nat} (z : Nat) (k : Nat) : (s.put h z).rl k = s.rl k := by
  unfold St.rl St.put
  rw [List.getD_eq_getElem?_getD, List.getD_eq_getElem?_getD, List.getElem?_set]
  split
  · rename_i e
    subst e
    split
    · rename_i hh
      simp [St.rl, List.getD_eq_getElem?_getD, List.getElem?_eq_getElem hh]
    · rename_i hh
      rw [List.getElem?_eq_none (by omega)]
  · rfl
theorem slM.cp {I I' : Nat → Nat → Int32} {o1 a o2 b nr : Nat} {s : St} (h : slM I o1 a s) (hs : stOK nr s) (f : ∀ j, j < 172 → I' o2 (b + j) = I o1 (a + j)) : slM I' o2 b s := by
  obtain ⟨h1, h2, h3, h4, h5, h6⟩ := h
  have l4 := hs.1
  have l40 := hs.2.2.2.1
  have f0 := f 0 (by decide)
  rw [Nat.add_zero, Nat.add_zero] at f0
  refine ⟨by rw [f0]; exact h1, fun k hk => ?_, by rw [f 9 (by decide)]; exact h3, by rw [f 10 (by decide)]; exact h4, by rw [f 11 (by decide)]; exact h5, fun i hi w hw => ?_⟩
  · have e1 := f (1 + k) (by omega)
    have e2 := f (5 + k) (by omega)
    rw [← Nat.add_assoc, ← Nat.add_assoc] at e1 e2
    rw [e1, e2]
    exact h2 k hk
  · have e1 := f (12 + 4 * i + w) (by omega)
    rw [← Nat.add_assoc, ← Nat.add_assoc, ← Nat.add_assoc, ← Nat.add_assoc] at e1
    rw [e1]
    exact h6 i hi w hw
theorem slM.put {I : Nat → Nat → Int32} {o b k : Nat} {s : St} (h : slM I o b s) (l4 : s.hs.length ≤ 4) (hk : k < s.hs.length) (z : Nat) : slM (up2 I o (b + 5 + k) (nI z)) o b (s.put k z) := by
  obtain ⟨h1, h2, h3, h4, h5, h6⟩ := h
  refine ⟨by rw [up2_n _ _ (by omega), h1, put_len], fun j hj => ?_, by rw [up2_n _ _ (by omega)]; exact h3, by rw [up2_n _ _ (by omega)]; exact h4, by rw [up2_n _ _ (by omega)]; exact h5, fun i hi w hw => by rw [up2_n _ _ (by omega)]; exact h6 i hi w hw⟩
  rw [put_len] at hj
  obtain ⟨a1, a2⟩ := h2 j hj
  refine ⟨by rw [up2_n _ _ (by omega), a1, put_rl], ?_⟩
  rw [put_sz z hk]
  by_cases e : j = k
  · subst e; rw [if_pos rfl]; exact up2_s ..
  · rw [if_neg e, up2_n _ _ (by omega)]; exact a2
theorem slM.pas {I : Nat → Nat → Int32} {o b : Nat} {s : St} (h : slM I o b s) (l4 : s.hs.length ≤ 4) (p : Nat) : slM (up2 I o (b + 9) (nI p)) o b (s.hs, p, s.mi, s.pl) := by
  obtain ⟨h1, h2, h3, h4, h5, h6⟩ := h
  exact ⟨by rw [up2_n _ _ (by omega)]; exact h1, fun j hj => by have hj' : j < s.hs.length := hj; rw [up2_n _ _ (by omega), up2_n _ _ (by omega)]; exact h2 j hj, up2_s .., by rw [up2_n _ _ (by omega)]; exact h4, by rw [up2_n _ _ (by omega)]; exact h5, fun i hi w hw => by rw [up2_n _ _ (by omega)]; exact h6 i hi w hw⟩
theorem slM.mis {I : Nat → Nat → Int32} {o b : Nat} {s : St} (h : slM I o b s) (l4 : s.hs.length ≤ 4) (q : Bool) : slM (up2 I o (b + 10) (b2i q)) o b (s.hs, s.ps, q, s.pl) := by
  obtain ⟨h1, h2, h3, h4, h5, h6⟩ := h
  exact ⟨by rw [up2_n _ _ (by omega)]; exact h1, fun j hj => by have hj' : j < s.hs.length := hj; rw [up2_n _ _ (by omega), up2_n _ _ (by omega)]; exact h2 j hj, by rw [up2_n _ _ (by omega)]; exact h3, up2_s .., by rw [up2_n _ _ (by omega)]; exact h5, fun i hi w hw => by rw [up2_n _ _ (by omega)]; exact h6 i hi w hw⟩
theorem slM.log {I I' : Nat → Nat → Int32} {o b : Nat} {s : St} (h : slM I o b s) (l4 : s.hs.length ≤ 4) {m : Mv} (f : ∀ j, j ≠ b + 11 → (j < b + 12 + 4 * s.pl.length ∨ b + 12 + 4 * s.pl.length + 3 < j) → I' o j = I o j) (f11 : I' o (b + 11) = nI (s.pl.length + 1)) (fm : ∀ w, w < 4 → I' o (b + 12 + 4 * s.pl.length + w) = deS m w) : slM I' o b (s.log m) := by
  obtain ⟨h1, h2, h3, h4, h5, h6⟩ := h
  refine ⟨by rw [f _ (by omega) (by omega)]; exact h1, fun j hj => by have hj' : j < s.hs.length := hj; rw [f _ (by omega) (by omega), f _ (by omega) (by omega)]; exact h2 j hj, by rw [f _ (by omega) (by omega)]; exact h3, by rw [f _ (by omega) (by omega)]; exact h4, by rw [f11]; show _ = nI (s.pl ++ [m]).length; rw [List.length_append]; rfl, fun i hi w hw => ?_⟩
  have hi' : i < s.pl.length + 1 := by have : i < (s.pl ++ [m]).length := hi; rw [List.length_append] at this; exact this
  show _ = deS ((s.pl ++ [m]).getD i Mv.pass) w
  rcases Nat.lt_or_ge i s.pl.length with z | z
  · rw [f _ (by omega) (by omega), h6 i z w hw, getD_lt z, getD_lt (show i < (s.pl ++ [m]).length by rw [List.length_append]; omega), List.getElem_append_left z]
  · obtain rfl : i = s.pl.length := by omega
    rw [fm w hw, getD_lt (show s.pl.length < (s.pl ++ [m]).length by rw [List.length_append]; exact Nat.lt_succ_self _), List.getElem_append_right (Nat.le_refl _)]
    simp
def frD (I I' : Nat → Nat → Int32) : Prop := (∀ o, o ≠ 80 → I' o = I o)
theorem frD.o {I I' : Nat → Nat → Int32} (h : frD I I') : frO I I' := ⟨fun o a => h o (by omega), by rw [h 79 (by decide)]⟩
theorem rM.dat {I I' : Nat → Nat → Int32} {A : AS} {c : Nat} (h : rM I A c) (f : frD I I') {s : St} (hs : slM I' 80 0 s) : rM I' (A.up s A.hi) c := by
  obtain ⟨h1, h2, h3, h4, h5, h6, h7, h8⟩ := h
  have g : ∀ o, o ≠ 80 → I' o = I o := f
  have g79 : ∀ k, I' 79 k = I 79 k := fun k => by rw [g 79 (by decide)]
  exact ⟨hs, h2.fr (g _ (by decide)) (g79 _), h3.fr (g _ (by decide)) (g _ (by decide)), h4.fr (fun o a b => g o (by omega)) (g79 _) (g79 _), h5.fr (g _ (by decide)) (g _ (by decide)), h6.fr (g _ (by decide)) (g79 _), h7.fr (g _ (by decide)) (g79 _), h8.fr (g _ (by decide)) (g _ (by decide)) (fun k _ _ => g79 k)⟩
def frK2 (I I' : Nat → Nat → Int32) : Prop := (∀ o, o ≠ 79 → o ≠ 82 → I' o = I o) ∧ ∀ k, k ≠ 5 → I' 79 k = I 79 k
theorem frK2.trans {I I' I'' : Nat → Nat → Int32} (h : frK2 I I') (h' : frK2 I' I'') : frK2 I I'' := ⟨fun o a b => (h'.1 o a b).trans (h.1 o a b), fun k a => (h'.2 k a).trans (h.2 k a)⟩
theorem frK2.o {I I' : Nat → Nat → Int32} (h : frK2 I I') : frO I I' := ⟨fun o a => h.1 o (by omega) (by omega), h.2 17 (by decide)⟩
theorem rM.his {I I' : Nat → Nat → Int32} {A : AS} {c : Nat} (h : rM I A c) (f : frK2 I I') {hi : List St} (hh : hsM I' hi) : rM I' (A.up A.st hi) c := by
  obtain ⟨h1, h2, h3, h4, h5, h6, h7, h8⟩ := h
  have g : ∀ o, o ≠ 79 → o ≠ 82 → I' o = I o := f.1
  exact ⟨h1.fr (g _ (by decide) (by decide)), hh, h3.fr (g _ (by decide) (by decide)) (g _ (by decide) (by decide)), h4.fr (fun o a b => g o (by omega) (by omega)) (f.2 _ (by decide)) (f.2 _ (by decide)), h5.fr (g _ (by decide) (by decide)) (g _ (by decide) (by decide)), h6.fr (g _ (by decide) (by decide)) (f.2 _ (by decide)), h7.fr (g _ (by decide) (by decide)) (f.2 _ (by decide)), h8.fr (g _ (by decide) (by decide)) (g _ (by decide) (by decide)) (fun k a b => f.2 k (by omega))⟩
section MU
variable (E : GE) (l : Launch)
variable {I : Nat → Nat → Int32} {J : Nat → Nat → Int64} {R : Nat → Nat → Option Nat} {D : Nat → Nat → UInt64} {N : Nat} {ex : Bool} {A : AS} {c : Nat}
set_option maxRecDepth 100000 in
theorem m_isFull (hR : lkM R N) {n : Nat} (h : I 80 11 = nI n) (hn : n ≤ 40) : g_Ct E l mX7_isFull 0 0 0 0 [.ref 79] (I, J, R, D, N, ex) (g_is (some (.int (b2i (decide (n = 40))))) (I, J, R, D, N, ex)) := by
  refine g_Ct.of (by decide +kernel) (lb rfl) ?_
  have hN := hR.1
  refine w_aload_n dX7_isFull_0 rfl ?_
  refine x_getr (ci := 7) (k := 0) (a := 80) dX7_isFull_1 rfl (by decide) (by decide) (by omega) fl_X7_7 (Or.inr ⟨_, rfl⟩) hR.2.1 ?_
  refine w_bipush (v := 11) dX7_isFull_4 (by decide) ?_
  refine x_iald (j := 11) dX7_isFull_6 rfl (by omega) rfl (show 11 < 172 by decide) ?_
  rw [h]
  refine w_bipush (v := 40) dX7_isFull_7 (by decide) ?_
  refine w_icmp_ne (tgt := 16) dX7_isFull_9 (by decide) (fun c_9 => ?_) (fun c_9 => ?_)
  · refine w_iconst (v := 0) dX7_isFull_16 (by decide) ?_
    refine w_iret dX7_isFull_17 rfl rfl (by first | exact ⟨rt_t (decide_eq_true (n_eq (b := 40) c_9)), rfl⟩ | exact ⟨rt_f (decide_eq_false (fun q => c_9 (by rw [q]; rfl))), rfl⟩) (by decide) (by decide)
  · refine w_iconst (v := 1) dX7_isFull_12 (by decide) ?_
    refine w_goto (tgt := 17) dX7_isFull_13 (by decide) ?_
    refine w_iret dX7_isFull_17 rfl rfl (by first | exact ⟨rt_t (decide_eq_true (n_eq (b := 40) c_9)), rfl⟩ | exact ⟨rt_f (decide_eq_false (fun q => c_9 (by rw [q]; rfl))), rfl⟩) (by decide) (by decide)
set_option maxRecDepth 100000 in
theorem m_keeps (hR : lkM R N) (hA : aOK A) (h : rM I A c) : g_Ct E l mX7_keeps 1 25 0 0 [.ref 79] (I, J, R, D, N, ex) (g_rv (fun I' => frK2 I I' ∧ rM I' (A.rec A.st) c) J R D N ex) := by
  refine g_Ct.of (by decide +kernel) (lb rfl) ?_
  have hN := hR.1
  have hs := hA.2.2.1
  have hhi := hA.2.2.2.2.2.1
  obtain ⟨q1, q2, q3⟩ := h.2.1
  have s50 : ∀ (u : Nat) (I' : Nat → Nat → Int32), u ≤ 9 → frK2 I I' → I' 79 5 = nI u → (∀ i (hi : i < ((A.st :: A.hi).take 10).length), 0 < i → slM I' 82 (172 * (u - i)) ((A.st :: A.hi).take 10)[i]) → ((A.st :: A.hi).take 10).length = u + 1 → g_Wp E l mX7_keeps { frames := 1, cells := 0, slots := 0, locals := 25 } (g_Fin E (g_rv (fun I' => frK2 I I' ∧ rM I' (A.rec A.st) c) J R D N ex) 0 0) 0 0 50 [(0, .ref 79)] [] (I', J, R, D, N, ex) := by
    intro u I' hu g1 g2 g3 g4
    have h80 : slM I' 80 0 A.st := h.1.fr (g1.1 80 (by decide) (by decide))
    have e5 : (nI 172 * nI u : Int32) = nI (172 * u) := pk_mul 172 u
    have fin : hsM (up2 (cpI I' 80 0 82 (172 * u) 172) 79 5 (nI (u + 1))) ((A.st :: A.hi).take 10) := by
      refine ⟨by omega, by rw [up2_s, g4], fun i hi => ?_⟩
      rw [g4, show u + 1 - 1 - i = u - i by omega]
      rcases Nat.eq_zero_or_pos i with z | z
      · subst z
        refine slM.cp (I := I') (o1 := 80) (a := 0) (nr := A.nr) ?_ ?_ (fun j hj => ?_)
        · exact h80
        · exact hs
        · rw [up2_n _ _ (by simp)]
          show (if (82 : Nat) = 82 ∧ 172 * u ≤ 172 * (u - 0) + j ∧ 172 * (u - 0) + j < 172 * u + 172 then I' 80 (0 + (172 * (u - 0) + j - 172 * u)) else _) = _
          rw [if_pos ⟨rfl, by omega, by omega⟩, show 172 * (u - 0) + j - 172 * u = j by omega]
      · have hs9 : stOK A.nr ((A.st :: A.hi).take 10)[i] := by
          rw [List.getElem_take]
          obtain ⟨i', rfl⟩ : ∃ i', i = i' + 1 := ⟨i - 1, by omega⟩
          rw [List.getElem_cons_succ]
          exact hhi _ _
        refine slM.cp (g3 i hi z) hs9 (fun j hj => ?_)
        rw [up2_n _ _ (by simp)]
        show (if (82 : Nat) = 82 ∧ 172 * u ≤ 172 * (u - i) + j ∧ 172 * (u - i) + j < 172 * u + 172 then _ else I' 82 (172 * (u - i) + j)) = _
        rw [if_neg (by omega)]
    refine w_aload_n dX7_keeps_50 rfl ?_
    refine x_getr (ci := 7) (k := 0) (a := 80) dX7_keeps_51 rfl (by decide) (by decide) (by omega) fl_X7_7 (Or.inr ⟨_, rfl⟩) hR.2.1 ?_
    refine w_iconst (v := 0) dX7_keeps_54 (by decide) ?_
    refine w_aload_n dX7_keeps_55 rfl ?_
    refine x_getr (ci := 7) (k := 2) (a := 82) dX7_keeps_56 rfl (by decide) (by decide) (by omega) fl_X7_16 (Or.inr ⟨_, rfl⟩) hR.2.2.2.1 ?_
    refine w_sipush (v := 172) dX7_keeps_59 (by decide) ?_
    refine w_aload_n dX7_keeps_62 rfl ?_
    refine x_geti (ci := 7) (k := 5) dX7_keeps_63 rfl (by decide) (by decide) (by omega) fl_X7_271 rfl ?_
    rw [g2]
    refine w_imul dX7_keeps_66 ?_
    rw [show (172 : Int32) * nI u = nI (172 * u) from e5]
    refine w_sipush (v := 172) dX7_keeps_67 (by decide) ?_
    refine z_callS dX7_keeps_70 lk_X7_252 [.ref 80, .int (nI 0), .ref 82, .int (nI (172 * u)), .int (nI 172)] rfl (m_copies E l (o1 := 80) (o2 := 82) (n1 := 172) (n2 := 1720) rfl rfl (by omega) (by omega) (by decide) (by decide) (by omega) (by decide) (by decide)) rfl ⟨⟨by decide, by decide⟩, by decide, by decide⟩ (lb rfl) ?_
    refine w_aload_n dX7_keeps_73 rfl ?_
    refine w_dup dX7_keeps_74 rfl ?_
    refine x_geti (ci := 7) (k := 5) dX7_keeps_75 rfl (by decide) (by decide) (by omega) fl_X7_271 rfl ?_
    refine w_st (show _ = [.int (nI u), .ref 79] from by rw [show cpI I' 80 0 82 (172 * u) 172 79 5 = I' 79 5 from if_neg (by omega), g2]) ?_
    refine w_iconst (v := 1) dX7_keeps_78 (by decide) ?_
    refine w_iadd dX7_keeps_79 ?_
    rw [nI_1]
    refine x_puti (ci := 7) (k := 5) dX7_keeps_80 rfl (by decide) (by decide) (by omega) fl_X7_271 rfl rfl ?_
    refine w_vret dX7_keeps_83 rfl ⟨_, rfl, ⟨g1.trans ⟨fun o a b => by funext j; rw [up2_n _ _ (by simp [a])]; exact if_neg (fun q => b q.1), fun k a => by rw [up2_n _ _ (by simp [a])]; exact if_neg (by omega)⟩, (h.his (g1.trans ⟨fun o a b => by funext j; rw [up2_n _ _ (by simp [a])]; exact if_neg (fun q => b q.1), fun k a => by rw [up2_n _ _ (by simp [a])]; exact if_neg (by omega)⟩) fin)⟩, rfl⟩ (by decide) (by decide)
  by_cases h10 : A.hi.length = 10
  · have s11 : ∀ (f k : Nat) (I' : Nat → Nat → Int32), k + f = 1548 → (∀ o, o ≠ 82 → I' o = I o) → (∀ j, I' 82 j = if j < k then I 82 (j + 172) else I 82 j) → g_Wp E l mX7_keeps { frames := 1, cells := 0, slots := 0, locals := 25 } (g_Fin E (g_rv (fun I' => frK2 I I' ∧ rM I' (A.rec A.st) c) J R D N ex) 0 0) 0 0 11 [(1, .int (nI k)), (0, .ref 79)] [] (I', J, R, D, N, ex) := by
      intro f
      induction f with
      | zero =>
        intro k I' hk g1 g2
        obtain rfl : k = 1548 := by omega
        have hl9 : ((A.st :: A.hi).take 10).length = 9 + 1 := by rw [List.length_take, List.length_cons, h10]; decide
        have t9 := s50 9 (up2 I' 79 5 (nI 9)) (by decide) ⟨fun o a b => by rw [← g1 o b]; funext j; exact up2_n _ _ (by simp [a]), fun k a => by rw [up2_n _ _ (by simp [a]), g1 79 (by decide)]⟩ (up2_s ..) (fun i hi z => by
          have hi10 : i < 10 := by rw [hl9] at hi; exact hi
          obtain ⟨i', rfl⟩ : ∃ i', i = i' + 1 := ⟨i - 1, by omega⟩
          have hil : i' < A.hi.length := by omega
          have e9 : ((A.st :: A.hi).take 10)[i' + 1] = A.hi[i'] := by rw [List.getElem_take, List.getElem_cons_succ]
          rw [e9]
          refine slM.cp (q3 i' hil) (hhi i' hil) (fun j hj => ?_)
          rw [up2_n _ _ (by simp), g2, if_pos (by omega)]
          congr 1
          omega) hl9
        refine w_iload_n dX7_keeps_11 rfl ?_
        refine w_sipush (v := 1548) dX7_keeps_12 (by decide) ?_
        refine w_icmp_ge (tgt := 40) dX7_keeps_15 (by decide) (fun c_15 => ?_) (fun c_15 => absurd ((nI_le (a := 1548) (b := 1548) (by omega) (by omega))) c_15)
        refine w_aload_n dX7_keeps_40 rfl ?_
        refine w_dup dX7_keeps_41 rfl ?_
        refine x_geti (ci := 7) (k := 5) dX7_keeps_42 rfl (by decide) (by decide) (by omega) fl_X7_271 rfl ?_
        rw [g1 79 (by decide), q2, h10]
        refine w_iconst (v := 1) dX7_keeps_45 (by decide) ?_
        refine w_isub dX7_keeps_46 ?_
        refine w_st (show _ = [.int (nI 9), .ref 79] from rfl) ?_
        refine x_puti (ci := 7) (k := 5) dX7_keeps_47 rfl (by decide) (by decide) (by omega) fl_X7_271 rfl rfl ?_
        exact w_lv [0] t9
      | succ f ih =>
        intro k I' hk g1 g2
        refine w_iload_n dX7_keeps_11 rfl ?_
        refine w_sipush (v := 1548) dX7_keeps_12 (by decide) ?_
        refine w_icmp_ge (tgt := 40) dX7_keeps_15 (by decide) (fun c_15 => absurd c_15 ((nI_ge (a := k) (b := 1548) (by omega) (by omega)))) (fun c_15 => ?_)
        refine w_aload_n dX7_keeps_18 rfl ?_
        refine x_getr (ci := 7) (k := 2) (a := 82) dX7_keeps_19 rfl (by decide) (by decide) (by omega) fl_X7_16 (Or.inr ⟨_, rfl⟩) hR.2.2.2.1 ?_
        refine w_iload_n dX7_keeps_22 rfl ?_
        refine w_aload_n dX7_keeps_23 rfl ?_
        refine x_getr (ci := 7) (k := 2) (a := 82) dX7_keeps_24 rfl (by decide) (by decide) (by omega) fl_X7_16 (Or.inr ⟨_, rfl⟩) hR.2.2.2.1 ?_
        refine w_iload_n dX7_keeps_27 rfl ?_
        refine w_sipush (v := 172) dX7_keeps_28 (by decide) ?_
        refine w_iadd dX7_keeps_31 ?_
        rw [show nI k + (172 : Int32) = nI (k + 172) from by rw [← nI_add]; rfl]
        refine x_iald (j := k + 172) dX7_keeps_32 rfl (by omega) rfl (show k + 172 < 1720 by omega) ?_
        rw [g2, if_neg (by omega)]
        refine x_iast (j := k) dX7_keeps_33 rfl (by omega) rfl (show k < 1720 by omega) ?_
        refine w_iinc (v := nI (k + 1)) dX7_keeps_34 rfl (nI_inc _) (by decide) rfl ?_
        refine w_goto (tgt := 11) dX7_keeps_37 (by decide) ?_
        refine w_lv [1, 0] (ih (k + 1) _ (by omega) (fun o ho => by rw [← g1 o ho]; funext j; exact up2_n _ _ (by simp [ho])) (fun j => ?_))
        by_cases e : j = k
        · subst e; rw [up2_s, if_pos (by omega)]
        · rw [up2_n _ _ (by simp [e]), g2]
          by_cases e2 : j < k
          · rw [if_pos e2, if_pos (by omega)]
          · rw [if_neg e2, if_neg (by omega)]
    refine w_aload_n dX7_keeps_0 rfl ?_
    refine x_geti (ci := 7) (k := 5) dX7_keeps_1 rfl (by decide) (by decide) (by omega) fl_X7_271 rfl ?_
    rw [q2, h10]
    refine w_bipush (v := 10) dX7_keeps_4 (by decide) ?_
    refine w_icmp_ne (tgt := 50) dX7_keeps_6 (by decide) (fun c_6 => absurd ((show nI 10 = 10 from rfl)) c_6) (fun c_6 => ?_)
    refine w_iconst (v := 0) dX7_keeps_9 (by decide) ?_
    refine w_istore_n dX7_keeps_10 (by decide) rfl ?_
    refine w_lv [1, 0] (s11 1548 0 I (by omega) (fun _ _ => rfl) (fun j => ?_))
    rw [if_neg (by omega)]
  · have hl : ((A.st :: A.hi).take 10).length = A.hi.length + 1 := by rw [List.length_take, List.length_cons]; omega
    refine w_aload_n dX7_keeps_0 rfl ?_
    refine x_geti (ci := 7) (k := 5) dX7_keeps_1 rfl (by decide) (by decide) (by omega) fl_X7_271 rfl ?_
    rw [q2]
    refine w_bipush (v := 10) dX7_keeps_4 (by decide) ?_
    refine w_icmp_ne (tgt := 50) dX7_keeps_6 (by decide) (fun c_6 => ?_) (fun c_6 => absurd c_6 ((fun q => h10 (n_eq (b := 10) q))))
    refine w_lv [0] (s50 A.hi.length I (by omega) ⟨fun _ _ _ => rfl, fun _ _ => rfl⟩ q2 (fun i hi z => ?_) hl)
    obtain ⟨i', rfl⟩ : ∃ i', i = i' + 1 := ⟨i - 1, by omega⟩
    have hil : i' < A.hi.length := (by omega)
    have e9 : ((A.st :: A.hi).take 10)[i' + 1] = A.hi[i'] := (by rw [List.getElem_take, List.getElem_cons_succ])
    rw [e9]
    have := q3 i' hil
    rw [show A.hi.length - 1 - i' = A.hi.length - (i' + 1) by omega] at this
    exact this
end MU
