/-! HeapGamesModel: findsShared, finds, movesNow -/
theorem pre_at {L Lp : List Mv} {m : Mv} (h : Lp ++ [m] <+: L) : L[Lp.length]? = some m := by
  obtain ⟨t, rfl⟩ := h
  rw [List.append_assoc, List.getElem?_append_right (Nat.le_refl _)]
  simp
theorem pre_in {L Lp : List Mv} {m : Mv} (h : Lp ++ [m] <+: L) : m ∈ L := by
  obtain ⟨t, rfl⟩ := h
  simp
theorem amt_pre (q : Nat → Bool) : ∀ {n a : Nat}, a ≤ n → amt q a <+: amt q n
  | 0, a, h => by obtain rfl : a = 0 := by omega
                  exact List.prefix_refl _
  | n + 1, a, h => by
    rcases Nat.lt_or_ge n a with z | z
    · obtain rfl : a = n + 1 := by omega
      exact List.prefix_refl _
    · exact (amt_pre q z).trans (by rw [amt]; exact List.prefix_append _ _)
theorem mvT_pre (c : Cf) (p : Nat) : ∀ {n a : Nat}, a ≤ n → mvT c p a <+: mvT c p n
  | 0, a, h => by obtain rfl : a = 0 := by omega
                  exact List.prefix_refl _
  | n + 1, a, h => by
    rcases Nat.lt_or_ge n a with z | z
    · obtain rfl : a = n + 1 := by omega
      exact List.prefix_refl _
    · exact (mvT_pre c p z).trans (by rw [mvT]; exact List.prefix_append _ _)
theorem mvS_pre (c : Cf) (p h : Nat) : ∀ {n a : Nat}, a ≤ n → mvS c p h a <+: mvS c p h n
  | 0, a, h => by obtain rfl : a = 0 := by omega
                  exact List.prefix_refl _
  | n + 1, a, h => by
    rcases Nat.lt_or_ge n a with z | z
    · obtain rfl : a = n + 1 := by omega
      exact List.prefix_refl _
    · exact (mvS_pre c p _ z).trans (by rw [mvS]; exact List.prefix_append _ _)
theorem mvB_pre (c : Cf) (p : Nat) : ∀ {n a : Nat}, a ≤ n → mvB c p a <+: mvB c p n
  | 0, a, h => by obtain rfl : a = 0 := by omega
                  exact List.prefix_refl _
  | n + 1, a, h => by
    rcases Nat.lt_or_ge n a with z | z
    · obtain rfl : a = n + 1 := by omega
      exact List.prefix_refl _
    · exact (mvB_pre c p z).trans (by rw [mvB]; exact List.prefix_append _ _)
theorem pre_app {α : Type} (l : List α) {a b : List α} (h : a <+: b) : l ++ a <+: l ++ b := by
  obtain ⟨t, rfl⟩ := h
  exact ⟨t, by rw [List.append_assoc]⟩
theorem pre_T {c : Cf} {p k a : Nat} (hk : k < c.m) (ha : a ≤ dig p k) : mvT c p k ++ (amt (c.al k (dig p k)) a).map (Mv.take k) <+: mvs c p := by
  refine List.IsPrefix.trans ?_ (List.prefix_append (mvP c p) _)
  refine List.IsPrefix.trans ?_ (List.prefix_append (mvT c p c.m) _)
  refine List.IsPrefix.trans ?_ (mvT_pre c p (show k + 1 ≤ c.m by omega))
  rw [mvT]
  exact pre_app _ ((amt_pre _ ha).map _)
theorem pre_B {c : Cf} {p h o : Nat} (hh : h < c.m) (ho : o ≤ c.m) : mvT c p c.m ++ (mvB c p h ++ mvS c p h o) <+: mvs c p := by
  refine List.IsPrefix.trans ?_ (List.prefix_append (mvP c p) _)
  refine pre_app _ ?_
  refine List.IsPrefix.trans ?_ (mvB_pre c p (show h + 1 ≤ c.m by omega))
  rw [mvB]
  exact pre_app _ (mvS_pre c p h ho)
def fdF (x : Int32) (L : List Mv) (s : St) (y : Int32) (I' : Nat → Nat → Int32) : Prop := ∃ i m, x = nI i ∧ L[i]? = some m ∧ y = b2i true ∧ mvH I' s m
def fdN (x : Int32) (L : List Mv) (y : Int32) (I' : Nat → Nat → Int32) : Prop := y = b2i false ∧ I' 79 49 = nI L.length ∧ ∀ i, i < L.length → x ≠ nI i
theorem fd_more {x : Int32} {L : List Mv} (h : ∀ i, i < L.length → x ≠ nI i) {m : Mv} (hm : x ≠ nI L.length) : ∀ i, i < (L ++ [m]).length → x ≠ nI i := by
  intro i hi
  rw [List.length_append, List.length_singleton] at hi
  rcases Nat.lt_or_ge i L.length with z | z
  · exact h i z
  · obtain rfl : i = L.length := by omega
    exact hm
section MN
variable (E : GE) (l : Launch)
variable {I : Nat → Nat → Int32} {J : Nat → Nat → Int64} {R : Nat → Nat → Option Nat} {D : Nat → Nat → UInt64} {N : Nat} {ex : Bool} {s : St} {nr : Nat}
set_option maxRecDepth 100000 in
theorem m_findsShared (hR : lkM R N) (hs : stOK nr s) (h : slM I 80 0 s) {sm : Nat} (hsh : I 79 16 = nI sm) (hs6 : sm < 65536) {x : Int32} {k o : Nat} (hk : k < o) (ho : o < s.hs.length) {L Lp : List Mv} (hj : I 79 49 = nI Lp.length) (hx : ∀ i, i < Lp.length → x ≠ nI i) (hpre : Lp ++ (amt sm.testBit (min (s.sz k) (s.sz o))).map (Mv.both k o) <+: L) (hok : ∀ m ∈ L, toC s m ≤ hAt s ∧ mvW m) : g_Ct E l mX7_findsShared 3 68 0 0 [.ref 79, .int x, .int (nI k), .int (nI o)] (I, J, R, D, N, ex) (g_ri (fun y I' => frZ I I' ∧ (fdF x L s y I' ∨ fdN x (Lp ++ (amt sm.testBit (min (s.sz k) (s.sz o))).map (Mv.both k o)) y I')) J R D N ex) := by
  refine g_Ct.of (by decide +kernel) (lb rfl) ?_
  have hN := hR.1
  have h4 := hs.1
  have z1 := hs.sz k
  have z2 := hs.sz o
  obtain ⟨_, d2⟩ := h.2.1 k (by omega)
  obtain ⟨_, e2⟩ := h.2.1 o (by omega)
  rw [show 0 + 5 + k = 5 + k by omega] at d2
  rw [show 0 + 5 + o = 5 + o by omega] at e2
  generalize hmn : min (s.sz k) (s.sz o) = mn at *
  have loop : ∀ (f a : Nat) (I' : Nat → Nat → Int32), a + f = mn → frZ I I' → I' 79 49 = nI (Lp ++ (amt sm.testBit a).map (Mv.both k o)).length → (∀ i, i < (Lp ++ (amt sm.testBit a).map (Mv.both k o)).length → x ≠ nI i) → g_Wp E l mX7_findsShared { frames := 3, cells := 0, slots := 0, locals := 68 } (g_Fin E (g_ri (fun y I' => frZ I I' ∧ (fdF x L s y I' ∨ fdN x (Lp ++ (amt sm.testBit mn).map (Mv.both k o)) y I')) J R D N ex) 0 0) 0 0 43 [(5, .int (nI (a + 1))), (4, .int (nI mn)), (0, .ref 79), (1, .int x), (2, .int (nI k)), (3, .int (nI o))] [] (I', J, R, D, N, ex) := by
    intro f
    induction f with
    | zero =>
      intro a I' ha h1 h2 h3
      obtain rfl : a = mn := by omega
      refine w_iload dX7_findsShared_43 rfl ?_
      refine w_iload dX7_findsShared_45 rfl ?_
      refine w_icmp_gt (tgt := 83) dX7_findsShared_47 (by decide) (fun c_47 => ?_) (fun c_47 => absurd ((nI_lt (by omega) (by omega))) c_47)
      refine w_iconst (v := 0) dX7_findsShared_83 (by decide) ?_
      refine w_iret dX7_findsShared_84 rfl rfl ⟨_, _, rfl, ⟨h1, Or.inr ⟨rfl, h2, h3⟩⟩, rfl⟩ (by decide) (by decide)
    | succ f ih =>
      intro a I' ha h1 h2 h3
      have t9 := ih (a + 1)
      rw [show amt sm.testBit (a + 1) = amt sm.testBit a ++ (if sm.testBit (a + 1) then [a + 1] else []) from rfl] at t9
      have e16 : I' 79 16 = nI sm := (h1.2 16 (by decide)).trans hsh
      cases hb : sm.testBit (a + 1) with
      | false =>
        rw [hb, if_neg (by decide), List.append_nil] at t9
        refine w_iload dX7_findsShared_43 rfl ?_
        refine w_iload dX7_findsShared_45 rfl ?_
        refine w_icmp_gt (tgt := 83) dX7_findsShared_47 (by decide) (fun c_47 => absurd c_47 ((nI_nlt (by omega) (by omega)))) (fun c_47 => ?_)
        refine w_aload_n dX7_findsShared_50 rfl ?_
        refine x_geti (ci := 7) (k := 16) dX7_findsShared_51 rfl (by decide) (by decide) (by omega) fl_X7_225 rfl ?_
        rw [e16]
        refine w_iload dX7_findsShared_54 rfl ?_
        refine y_callS dX7_findsShared_56 lk_X7_313 [.int (nI sm), .int (nI (a + 1))] rfl (m_has E l _ (by omega) (by omega)) rfl ⟨⟨by decide, by decide⟩, by decide, by decide⟩ (lb rfl) ?_
        rw [hb]
        refine w_if_eq (tgt := 77) dX7_findsShared_59 (by decide) (fun c_59 => ?_) (fun c_59 => absurd (rfl) c_59)
        refine w_iinc (v := nI (a + 1 + 1)) dX7_findsShared_77 rfl (nI_inc _) (by decide) rfl ?_
        refine w_goto (tgt := 43) dX7_findsShared_80 (by decide) ?_
        exact w_lv [5, 4, 0, 1, 2, 3] (t9 I' (by omega) h1 h2 h3)
      | true =>
        rw [hb, if_pos rfl, List.map_append, ← List.append_assoc] at t9
        have hp9 : (Lp ++ (amt sm.testBit a).map (Mv.both k o)) ++ [Mv.both k o (a + 1)] <+: L := by
          refine List.IsPrefix.trans ?_ hpre
          rw [List.append_assoc]
          refine pre_app _ ?_
          have := (amt_pre sm.testBit (show a + 1 ≤ mn by omega)).map (Mv.both k o)
          rw [show amt sm.testBit (a + 1) = amt sm.testBit a ++ (if sm.testBit (a + 1) then [a + 1] else []) from rfl, hb, if_pos rfl, List.map_append] at this
          exact this
        have hk9 := hok _ (pre_in hp9)
        generalize hLq : Lp ++ (amt sm.testBit a).map (Mv.both k o) = Lq at *
        by_cases hxj : x = nI Lq.length
        · subst hxj
          refine w_iload dX7_findsShared_43 rfl ?_
          refine w_iload dX7_findsShared_45 rfl ?_
          refine w_icmp_gt (tgt := 83) dX7_findsShared_47 (by decide) (fun c_47 => absurd c_47 ((nI_nlt (by omega) (by omega)))) (fun c_47 => ?_)
          refine w_aload_n dX7_findsShared_50 rfl ?_
          refine x_geti (ci := 7) (k := 16) dX7_findsShared_51 rfl (by decide) (by decide) (by omega) fl_X7_225 rfl ?_
          rw [e16]
          refine w_iload dX7_findsShared_54 rfl ?_
          refine y_callS dX7_findsShared_56 lk_X7_313 [.int (nI sm), .int (nI (a + 1))] rfl (m_has E l _ (by omega) (by omega)) rfl ⟨⟨by decide, by decide⟩, by decide, by decide⟩ (lb rfl) ?_
          rw [hb]
          refine w_if_eq (tgt := 77) dX7_findsShared_59 (by decide) (fun c_59 => absurd c_59 ((by decide))) (fun c_59 => ?_)
          refine w_aload_n dX7_findsShared_62 rfl ?_
          refine w_iload_n dX7_findsShared_63 rfl ?_
          refine w_iconst (v := 1) dX7_findsShared_64 (by decide) ?_
          refine w_iload_n dX7_findsShared_65 rfl ?_
          refine w_iload_n dX7_findsShared_66 rfl ?_
          refine w_iload dX7_findsShared_67 rfl ?_
          refine v_callV dX7_findsShared_69 lk_X7_347 [.int (nI Lq.length), .int (deS (Mv.both k o (a + 1)) 0), .int (deS (Mv.both k o (a + 1)) 1), .int (deS (Mv.both k o (a + 1)) 2), .int (deS (Mv.both k o (a + 1)) 3)] rfl (m_isIt_t E l hR hs (h.fr (h1.1 80 (by decide))) h2 hk9.1 hk9.2) (g_recv.obj (ci := 7) rfl (by decide) (show 79 < N by omega)) rfl ⟨⟨by decide, by decide⟩, by decide, by decide⟩ (lb rfl) (fun x_69 I2 h_69 => ?_)
          obtain ⟨k1, k2, k3⟩ := h_69
          refine w_if_eq (tgt := 77) dX7_findsShared_72 (by decide) (fun c_72 => absurd c_72 ((by rw [k1]; decide))) (fun c_72 => ?_)
          refine w_iconst (v := 1) dX7_findsShared_75 (by decide) ?_
          refine w_iret dX7_findsShared_76 rfl rfl ⟨_, _, rfl, ⟨h1.trans k2, Or.inl ⟨_, _, rfl, pre_at hp9, rfl, k3⟩⟩, rfl⟩ (by decide) (by decide)
        · refine w_iload dX7_findsShared_43 rfl ?_
          refine w_iload dX7_findsShared_45 rfl ?_
          refine w_icmp_gt (tgt := 83) dX7_findsShared_47 (by decide) (fun c_47 => absurd c_47 ((nI_nlt (by omega) (by omega)))) (fun c_47 => ?_)
          refine w_aload_n dX7_findsShared_50 rfl ?_
          refine x_geti (ci := 7) (k := 16) dX7_findsShared_51 rfl (by decide) (by decide) (by omega) fl_X7_225 rfl ?_
          rw [e16]
          refine w_iload dX7_findsShared_54 rfl ?_
          refine y_callS dX7_findsShared_56 lk_X7_313 [.int (nI sm), .int (nI (a + 1))] rfl (m_has E l _ (by omega) (by omega)) rfl ⟨⟨by decide, by decide⟩, by decide, by decide⟩ (lb rfl) ?_
          rw [hb]
          refine w_if_eq (tgt := 77) dX7_findsShared_59 (by decide) (fun c_59 => absurd c_59 ((by decide))) (fun c_59 => ?_)
          refine w_aload_n dX7_findsShared_62 rfl ?_
          refine w_iload_n dX7_findsShared_63 rfl ?_
          refine w_iconst (v := 1) dX7_findsShared_64 (by decide) ?_
          refine w_iload_n dX7_findsShared_65 rfl ?_
          refine w_iload_n dX7_findsShared_66 rfl ?_
          refine w_iload dX7_findsShared_67 rfl ?_
          refine y_callV dX7_findsShared_69 lk_X7_347 [.int x, .int 1, .int (nI k), .int (nI o), .int (nI (a + 1))] rfl (m_isIt_f E l hR h2 hxj _ _ _ _) (g_recv.obj (ci := 7) rfl (by decide) (show 79 < N by omega)) rfl ⟨⟨by decide, by decide⟩, by decide, by decide⟩ (lb rfl) ?_
          refine w_if_eq (tgt := 77) dX7_findsShared_72 (by decide) (fun c_72 => ?_) (fun c_72 => absurd (rfl) c_72)
          refine w_iinc (v := nI (a + 1 + 1)) dX7_findsShared_77 rfl (nI_inc _) (by decide) rfl ?_
          refine w_goto (tgt := 43) dX7_findsShared_80 (by decide) ?_
          exact w_lv [5, 4, 0, 1, 2, 3] (t9 _ (by omega) (h1.up (by decide) _) (by rw [up2_s, List.length_append]; rfl) (fd_more h3 hxj))
  have start : g_Wp E l mX7_findsShared { frames := 3, cells := 0, slots := 0, locals := 68 } (g_Fin E (g_ri (fun y I' => frZ I I' ∧ (fdF x L s y I' ∨ fdN x (Lp ++ (amt sm.testBit mn).map (Mv.both k o)) y I')) J R D N ex) 0 0) 0 0 43 [(5, .int (nI (0 + 1))), (4, .int (nI mn)), (0, .ref 79), (1, .int x), (2, .int (nI k)), (3, .int (nI o))] [] (I, J, R, D, N, ex) := loop mn 0 I (by omega) (frZ.refl I) (by rw [show amt sm.testBit 0 = [] from rfl, List.map_nil, List.append_nil]; exact hj) (by rw [show amt sm.testBit 0 = [] from rfl, List.map_nil, List.append_nil]; exact hx)
  refine w_aload_n dX7_findsShared_0 rfl ?_
  refine x_getr (ci := 7) (k := 0) (a := 80) dX7_findsShared_1 rfl (by decide) (by decide) (by omega) fl_X7_7 (Or.inr ⟨_, rfl⟩) hR.2.1 ?_
  refine w_iconst (v := 5) dX7_findsShared_4 (by decide) ?_
  refine w_iload_n dX7_findsShared_5 rfl ?_
  refine w_iadd dX7_findsShared_6 ?_
  rw [show (5 : Int32) + nI k = nI (5 + k) from by rw [← nI_add]; rfl]
  refine x_iald (j := 5 + k) dX7_findsShared_7 rfl (by omega) rfl (show 5 + k < 172 by omega) ?_
  rw [d2]
  refine w_aload_n dX7_findsShared_8 rfl ?_
  refine x_getr (ci := 7) (k := 0) (a := 80) dX7_findsShared_9 rfl (by decide) (by decide) (by omega) fl_X7_7 (Or.inr ⟨_, rfl⟩) hR.2.1 ?_
  refine w_iconst (v := 5) dX7_findsShared_12 (by decide) ?_
  refine w_iload_n dX7_findsShared_13 rfl ?_
  refine w_iadd dX7_findsShared_14 ?_
  rw [show (5 : Int32) + nI o = nI (5 + o) from by rw [← nI_add]; rfl]
  refine x_iald (j := 5 + o) dX7_findsShared_15 rfl (by omega) rfl (show 5 + o < 172 by omega) ?_
  rw [e2]
  refine w_icmp_ge (tgt := 30) dX7_findsShared_16 (by decide) (fun c_16 => ?_) (fun c_16 => ?_)
  · refine w_aload_n dX7_findsShared_30 rfl ?_
    refine x_getr (ci := 7) (k := 0) (a := 80) dX7_findsShared_31 rfl (by decide) (by decide) (by omega) fl_X7_7 (Or.inr ⟨_, rfl⟩) hR.2.1 ?_
    refine w_iconst (v := 5) dX7_findsShared_34 (by decide) ?_
    refine w_iload_n dX7_findsShared_35 rfl ?_
    refine w_iadd dX7_findsShared_36 ?_
    rw [show (5 : Int32) + nI o = nI (5 + o) from by rw [← nI_add]; rfl]
    refine x_iald (j := 5 + o) dX7_findsShared_37 rfl (by omega) rfl (show 5 + o < 172 by omega) ?_
    rw [e2]
    refine w_istore dX7_findsShared_38 (by decide) rfl ?_
    refine w_iconst (v := 1) dX7_findsShared_40 (by decide) ?_
    refine w_istore dX7_findsShared_41 (by decide) rfl ?_
    first | (have e := n_le (a := s.sz o) (b := s.sz k) c_16; (have e3 : mn = s.sz o := by omega); subst e3; exact w_lv [5, 4, 0, 1, 2, 3] start) | (have e := n_nle (a := s.sz o) (b := s.sz k) c_16; (have e3 : mn = s.sz k := by omega); subst e3; exact w_lv [5, 4, 0, 1, 2, 3] start)
  · refine w_aload_n dX7_findsShared_19 rfl ?_
    refine x_getr (ci := 7) (k := 0) (a := 80) dX7_findsShared_20 rfl (by decide) (by decide) (by omega) fl_X7_7 (Or.inr ⟨_, rfl⟩) hR.2.1 ?_
    refine w_iconst (v := 5) dX7_findsShared_23 (by decide) ?_
    refine w_iload_n dX7_findsShared_24 rfl ?_
    refine w_iadd dX7_findsShared_25 ?_
    rw [show (5 : Int32) + nI k = nI (5 + k) from by rw [← nI_add]; rfl]
    refine x_iald (j := 5 + k) dX7_findsShared_26 rfl (by omega) rfl (show 5 + k < 172 by omega) ?_
    rw [d2]
    refine w_goto (tgt := 38) dX7_findsShared_27 (by decide) ?_
    refine w_istore dX7_findsShared_38 (by decide) rfl ?_
    refine w_iconst (v := 1) dX7_findsShared_40 (by decide) ?_
    refine w_istore dX7_findsShared_41 (by decide) rfl ?_
    first | (have e := n_le (a := s.sz o) (b := s.sz k) c_16; (have e3 : mn = s.sz o := by omega); subst e3; exact w_lv [5, 4, 0, 1, 2, 3] start) | (have e := n_nle (a := s.sz o) (b := s.sz k) c_16; (have e3 : mn = s.sz k := by omega); subst e3; exact w_lv [5, 4, 0, 1, 2, 3] start)
end MN
