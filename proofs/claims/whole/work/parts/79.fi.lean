/-! HeapGamesModel: here, finds -/
def pkw (l : List Nat) : Nat → Nat
  | 0 => 0
  | h + 1 => pkw l h + l.getD h 0 * 2 ^ (4 * h)
theorem pkw_cons (x : Nat) (l : List Nat) : ∀ n, pkw (x :: l) (n + 1) = x + 16 * pkw l n
  | 0 => by simp [pkw]
  | n + 1 => by
    rw [pkw, pkw_cons x l n, pkw, List.getD_cons_succ, show 4 * (n + 1) = 4 * n + 4 by omega, Nat.pow_add, Nat.mul_add]
    have : l.getD n 0 * (2 ^ (4 * n) * 2 ^ 4) = 16 * (l.getD n 0 * 2 ^ (4 * n)) := by rw [show (2 : Nat) ^ 4 = 16 from rfl, ← Nat.mul_assoc, Nat.mul_comm]
    omega
theorem pkw_len : ∀ l : List Nat, pkw l l.length = pk4 l
  | [] => rfl
  | x :: l => by rw [List.length_cons, pkw_cons, pkw_len l]; rfl
def hAt (s : St) : Nat := pk4 s.zs + 16 ^ s.hs.length * s.ps
def toC (s : St) (m : Mv) : Nat := match m with
  | .inl y => y.2 * 2 ^ (4 * y.1)
  | .inr (.inl y) => y.2.2 * 2 ^ (4 * y.1) + y.2.2 * 2 ^ (4 * y.2.1)
  | .inr (.inr _) => 16 ^ s.hs.length
def toA (s : St) (m : Mv) : Nat := hAt s - toC s m
theorem pk_len {l : List Nat} (h : ∀ x ∈ l, x < 16) : pk4 l < 16 ^ l.length := pk4_lt h
theorem hAt_mod {nr : Nat} {s : St} (h : stOK nr s) : hAt s % 16 ^ s.hs.length = pk4 s.zs ∧ hAt s / 16 ^ s.hs.length = s.ps ∧ hAt s < 4 * 16 ^ s.hs.length ∧ pA s.hs.length (hAt s) = s.pos := by
  have h1 := pk4_lt h.zs
  rw [St.zs_len] at h1
  have h2 := h.2.2.1
  have h3 : 0 < 16 ^ s.hs.length := Nat.pow_pos (by decide)
  have e1 : hAt s % 16 ^ s.hs.length = pk4 s.zs := by unfold hAt; rw [Nat.add_mul_mod_self_left, Nat.mod_eq_of_lt h1]
  have e2 : hAt s / 16 ^ s.hs.length = s.ps := by unfold hAt; rw [Nat.add_mul_div_left _ _ h3, Nat.div_eq_of_lt h1, Nat.zero_add]
  refine ⟨e1, e2, ?_, ?_⟩
  · unfold hAt
    have : 16 ^ s.hs.length * s.ps ≤ 16 ^ s.hs.length * 3 := Nat.mul_le_mul_left _ h2
    omega
  · unfold pA St.pos
    rw [e1, e2]
theorem hAt_dig {nr : Nat} {s : St} (h : stOK nr s) {k : Nat} (hk : k < s.hs.length) : dig (hAt s) k = s.sz k := by
  have h4 := h.1
  rw [← pA_dig (m := s.hs.length) h4 hk, (hAt_mod h).2.2.2]
  exact h.dig (by omega)
theorem to_ok {nr : Nat} {s : St} (h : stOK nr s) {c : Cf} (hc : c.m = s.hs.length) {m : Mv} (hm : m ∈ mvs c s.pos) : toC s m ≤ hAt s ∧ pA s.hs.length (toA s m) = s.pos - m.code ∧ toA s m < 4 * 16 ^ s.hs.length := by
  have hk := mem_mvs hm
  have h4 := h.1
  obtain ⟨e1, e2, e3, e4⟩ := hAt_mod h
  have hmod := Nat.mod_le (hAt s) (16 ^ s.hs.length)
  unfold toA
  rcases m with y | y | y
  · obtain ⟨k1, k2, k3, _⟩ := hk
    have k1' : y.1 < s.hs.length := by omega
    have k3' : y.2 ≤ dig (hAt s) y.1 := by rw [hAt_dig h k1', ← h.dig (by omega)]; exact k3
    have := tk_le h4 k1' k3'
    have e : toC s (.inl y) = y.2 * 2 ^ (4 * y.1) := rfl
    rw [e]
    exact ⟨by omega, by rw [pA_sub h4 this, e4]; rfl, by omega⟩
  · obtain ⟨k1, k2, k3, k4, k5, _⟩ := hk
    have k2' : y.2.1 < s.hs.length := by omega
    have k4' : y.2.2 ≤ dig (hAt s) y.1 := by rw [hAt_dig h (by omega), ← h.dig (by omega)]; exact k4
    have k5' : y.2.2 ≤ dig (hAt s) y.2.1 := by rw [hAt_dig h k2', ← h.dig (by omega)]; exact k5
    have := bt_le h4 k1 k2' k4' k5'
    have e : toC s (.inr (.inl y)) = y.2.2 * 2 ^ (4 * y.1) + y.2.2 * 2 ^ (4 * y.2.1) := rfl
    rw [e]
    exact ⟨by omega, by rw [pA_sub h4 this, e4, ← Nat.mul_add]; rfl, by omega⟩
  · have hk' : 65536 ≤ s.pos := hk
    rw [← e4] at hk'
    have h5 := (pA_pass h4).mpr hk'
    have e : toC s (.inr (.inr y)) = 16 ^ s.hs.length := rfl
    rw [e]
    exact ⟨h5, by rw [pA_pas2 h4 h5, e4]; rfl, by omega⟩
/-- the move at hand -/
def mvH (I : Nat → Nat → Int32) (s : St) (m : Mv) : Prop := I 79 44 = deS m 0 ∧ I 79 45 = deS m 1 ∧ I 79 46 = deS m 2 ∧ I 79 47 = deS m 3 ∧ I 79 48 = nI (toA s m)
section MM
variable (E : GE) (l : Launch)
variable {I : Nat → Nat → Int32} {J : Nat → Nat → Int64} {R : Nat → Nat → Option Nat} {D : Nat → Nat → UInt64} {N : Nat} {ex : Bool} {s : St} {nr : Nat}
set_option maxRecDepth 100000 in
theorem m_here (hR : lkM R N) (hs : stOK nr s) (h : slM I 80 0 s) : g_Ct E l mX7_here 1 20 0 0 [.ref 79] (I, J, R, D, N, ex) (g_is (some (.int (nI (hAt s)))) (I, J, R, D, N, ex)) := by
  refine g_Ct.of (by decide +kernel) (lb rfl) ?_
  have hN := hR.1
  have h4 := hs.1
  have loop : ∀ f k : Nat, k + f = s.hs.length → g_Wp E l mX7_here { frames := 1, cells := 0, slots := 0, locals := 20 } (g_Fin E (g_is (some (.int (nI (hAt s)))) (I, J, R, D, N, ex)) 0 0) 0 0 15 [(2, .int (nI k)), (1, .int (nI (16 ^ s.hs.length * s.ps + pkw s.zs k))), (0, .ref 79)] [] (I, J, R, D, N, ex) := by
    intro f
    induction f with
    | zero =>
      intro k hk
      obtain rfl : k = s.hs.length := by omega
      have epk : pkw s.zs s.hs.length = pk4 s.zs := by rw [← St.zs_len]; exact pkw_len _
      refine w_iload_n dX7_here_15 rfl ?_
      refine w_aload_n dX7_here_16 rfl ?_
      refine x_getr (ci := 7) (k := 0) (a := 80) dX7_here_17 rfl (by decide) (by decide) (by omega) fl_X7_7 (Or.inr ⟨_, rfl⟩) hR.2.1 ?_
      refine w_iconst (v := 0) dX7_here_20 (by decide) ?_
      refine x_iald (j := 0) dX7_here_21 rfl (by omega) rfl (show 0 < 172 by decide) ?_
      rw [h.1]
      refine w_icmp_ge (tgt := 47) dX7_here_22 (by decide) (fun c_22 => ?_) (fun c_22 => absurd ((nI_le (by omega) (by omega))) c_22)
      refine w_iload_n dX7_here_47 rfl ?_
      refine w_iret dX7_here_48 rfl rfl ⟨rt_i (by rw [epk, Nat.add_comm]; rfl), rfl⟩ (by decide) (by decide)
    | succ f ih =>
      intro k hk
      have hkl : k < s.hs.length := by omega
      obtain ⟨d1, d2⟩ := h.2.1 k hkl
      rw [show 0 + 5 + k = 5 + k by omega] at d2
      have t9 := ih (k + 1) (by omega)
      rw [pkw, show s.zs.getD k 0 = s.sz k from map_getD.2, ← Nat.add_assoc] at t9
      refine w_iload_n dX7_here_15 rfl ?_
      refine w_aload_n dX7_here_16 rfl ?_
      refine x_getr (ci := 7) (k := 0) (a := 80) dX7_here_17 rfl (by decide) (by decide) (by omega) fl_X7_7 (Or.inr ⟨_, rfl⟩) hR.2.1 ?_
      refine w_iconst (v := 0) dX7_here_20 (by decide) ?_
      refine x_iald (j := 0) dX7_here_21 rfl (by omega) rfl (show 0 < 172 by decide) ?_
      rw [h.1]
      refine w_icmp_ge (tgt := 47) dX7_here_22 (by decide) (fun c_22 => absurd c_22 ((nI_ge (by omega) (by omega)))) (fun c_22 => ?_)
      refine w_iload_n dX7_here_25 rfl ?_
      refine w_aload_n dX7_here_26 rfl ?_
      refine x_getr (ci := 7) (k := 0) (a := 80) dX7_here_27 rfl (by decide) (by decide) (by omega) fl_X7_7 (Or.inr ⟨_, rfl⟩) hR.2.1 ?_
      refine w_iconst (v := 5) dX7_here_30 (by decide) ?_
      refine w_iload_n dX7_here_31 rfl ?_
      refine w_iadd dX7_here_32 ?_
      rw [show (5 : Int32) + nI k = nI (5 + k) from by rw [← nI_add]; rfl]
      refine x_iald (j := 5 + k) dX7_here_33 rfl (by omega) rfl (show 5 + k < 172 by omega) ?_
      rw [d2]
      refine w_iload_n dX7_here_34 rfl ?_
      refine y_callS dX7_here_35 lk_X7_316 [.int (nI k)] rfl (m_weight E l _ (by omega)) rfl ⟨⟨by decide, by decide⟩, by decide, by decide⟩ (lb rfl) ?_
      refine w_imul dX7_here_38 ?_
      rw [pk_mul]
      refine w_iadd dX7_here_39 ?_
      rw [nI_add]
      refine w_istore_n dX7_here_40 (by decide) rfl ?_
      refine w_iinc (v := nI (k + 1)) dX7_here_41 rfl (nI_inc _) (by decide) rfl ?_
      refine w_goto (tgt := 15) dX7_here_44 (by decide) ?_
      exact w_lv [2, 1, 0] t9
  have c9 : I 80 9 = nI s.ps := h.2.2.1
  refine w_aload_n dX7_here_0 rfl ?_
  refine y_callV dX7_here_1 lk_X7_286 [] rfl (m_positions E l hR h.1 h4) (g_recv.obj (ci := 7) rfl (by decide) (show 79 < N by omega)) rfl ⟨⟨by decide, by decide⟩, by decide, by decide⟩ (lb rfl) ?_
  refine w_aload_n dX7_here_4 rfl ?_
  refine x_getr (ci := 7) (k := 0) (a := 80) dX7_here_5 rfl (by decide) (by decide) (by omega) fl_X7_7 (Or.inr ⟨_, rfl⟩) hR.2.1 ?_
  refine w_bipush (v := 9) dX7_here_8 (by decide) ?_
  refine x_iald (j := 9) dX7_here_10 rfl (by omega) rfl (show 9 < 172 by decide) ?_
  rw [c9]
  refine w_imul dX7_here_11 ?_
  rw [pk_mul]
  refine w_istore_n dX7_here_12 (by decide) rfl ?_
  refine w_iconst (v := 0) dX7_here_13 (by decide) ?_
  refine w_istore_n dX7_here_14 (by decide) rfl ?_
  exact w_lv [2, 1, 0] (loop s.hs.length 0 (by omega))
set_option maxRecDepth 100000 in
theorem m_isIt_f (hR : lkM R N) {x : Int32} {j : Nat} (hj : I 79 49 = nI j) (hx : x ≠ nI j) (a b c d : Int32) : g_Ct E l mX7_isIt 2 42 0 0 [.ref 79, .int x, .int a, .int b, .int c, .int d] (I, J, R, D, N, ex) (g_is (some (.int (b2i false))) (up2 I 79 49 (nI (j + 1)), J, R, D, N, ex)) := by
  refine g_Ct.of (by decide +kernel) (lb rfl) ?_
  have hN := hR.1
  refine w_aload_n dX7_isIt_0 rfl ?_
  refine x_geti (ci := 7) (k := 49) dX7_isIt_1 rfl (by decide) (by decide) (by omega) fl_X7_326 rfl ?_
  rw [hj]
  refine w_iload_n dX7_isIt_4 rfl ?_
  refine w_icmp_ne (tgt := 12) dX7_isIt_5 (by decide) (fun c_5 => ?_) (fun c_5 => absurd c_5 ((fun q => hx q.symm)))
  refine w_iconst (v := 0) dX7_isIt_12 (by decide) ?_
  refine w_istore dX7_isIt_13 (by decide) rfl ?_
  refine w_aload_n dX7_isIt_15 rfl ?_
  refine w_dup dX7_isIt_16 rfl ?_
  refine x_geti (ci := 7) (k := 49) dX7_isIt_17 rfl (by decide) (by decide) (by omega) fl_X7_326 rfl ?_
  rw [hj]
  refine w_iconst (v := 1) dX7_isIt_20 (by decide) ?_
  refine w_iadd dX7_isIt_21 ?_
  rw [nI_1]
  refine x_puti (ci := 7) (k := 49) dX7_isIt_22 rfl (by decide) (by decide) (by omega) fl_X7_326 rfl rfl ?_
  refine w_iload dX7_isIt_25 rfl ?_
  refine w_if_ne (tgt := 32) dX7_isIt_27 (by decide) (fun c_27 => absurd (rfl) c_27) (fun c_27 => ?_)
  refine w_iconst (v := 0) dX7_isIt_30 (by decide) ?_
  refine w_iret dX7_isIt_31 rfl rfl ⟨rfl, rfl⟩ (by decide) (by decide)
set_option maxRecDepth 100000 in
theorem m_isIt_t (hR : lkM R N) (hs : stOK nr s) (h : slM I 80 0 s) {j : Nat} (hj : I 79 49 = nI j) {m : Mv} (hm : toC s m ≤ hAt s) (hw : mvW m) : g_Ct E l mX7_isIt 2 42 0 0 [.ref 79, .int (nI j), .int (deS m 0), .int (deS m 1), .int (deS m 2), .int (deS m 3)] (I, J, R, D, N, ex) (g_ri (fun y I' => y = b2i true ∧ frZ I I' ∧ mvH I' s m) J R D N ex) := by
  refine g_Ct.of (by decide +kernel) (lb rfl) ?_
  have hN := hR.1
  have h4 := hs.1
  generalize hI9 : up2 (up2 (up2 (up2 (up2 I 79 49 (nI (j + 1))) 79 44 (deS m 0)) 79 45 (deS m 1)) 79 46 (deS m 2)) 79 47 (deS m 3) = I9
  have f9 : frZ I I9 := by
    rw [← hI9]
    exact (((((frZ.refl I).up (by decide) _).up (by decide) _).up (by decide) _).up (by decide) _).up (by decide) _
  have h9 : slM I9 80 0 s := h.fr (f9.1 80 (by decide))
  have fin : frZ I (up2 I9 79 48 (nI (toA s m))) ∧ mvH (up2 I9 79 48 (nI (toA s m))) s m := by
    refine ⟨f9.up (by decide) _, ?_, ?_, ?_, ?_, up2_s ..⟩ <;> rw [up2_n _ _ (by simp), ← hI9]
    · rw [up2_n _ _ (by simp), up2_n _ _ (by simp), up2_n _ _ (by simp), up2_s]
    · rw [up2_n _ _ (by simp), up2_n _ _ (by simp), up2_s]
    · rw [up2_n _ _ (by simp), up2_s]
    · rw [up2_s]
  rcases m with y | y | y
  · have hw1 : y.1 < 4 := hw.1
    have hm' : y.2 * 2 ^ (4 * y.1) ≤ hAt s := hm
    refine w_aload_n dX7_isIt_0 rfl ?_
    refine x_geti (ci := 7) (k := 49) dX7_isIt_1 rfl (by decide) (by decide) (by omega) fl_X7_326 rfl ?_
    rw [hj]
    refine w_iload_n dX7_isIt_4 rfl ?_
    refine w_icmp_ne (tgt := 12) dX7_isIt_5 (by decide) (fun c_5 => absurd (rfl) c_5) (fun c_5 => ?_)
    refine w_iconst (v := 1) dX7_isIt_8 (by decide) ?_
    refine w_goto (tgt := 13) dX7_isIt_9 (by decide) ?_
    refine w_istore dX7_isIt_13 (by decide) rfl ?_
    refine w_aload_n dX7_isIt_15 rfl ?_
    refine w_dup dX7_isIt_16 rfl ?_
    refine x_geti (ci := 7) (k := 49) dX7_isIt_17 rfl (by decide) (by decide) (by omega) fl_X7_326 rfl ?_
    rw [hj]
    refine w_iconst (v := 1) dX7_isIt_20 (by decide) ?_
    refine w_iadd dX7_isIt_21 ?_
    rw [nI_1]
    refine x_puti (ci := 7) (k := 49) dX7_isIt_22 rfl (by decide) (by decide) (by omega) fl_X7_326 rfl rfl ?_
    refine w_iload dX7_isIt_25 rfl ?_
    refine w_if_ne (tgt := 32) dX7_isIt_27 (by decide) (fun c_27 => ?_) (fun c_27 => absurd c_27 ((by decide)))
    refine w_aload_n dX7_isIt_32 rfl ?_
    refine w_iload_n dX7_isIt_33 rfl ?_
    refine x_puti (ci := 7) (k := 44) dX7_isIt_34 rfl (by decide) (by decide) (by omega) fl_X7_329 rfl rfl ?_
    refine w_aload_n dX7_isIt_37 rfl ?_
    refine w_iload_n dX7_isIt_38 rfl ?_
    refine x_puti (ci := 7) (k := 45) dX7_isIt_39 rfl (by decide) (by decide) (by omega) fl_X7_332 rfl rfl ?_
    refine w_aload_n dX7_isIt_42 rfl ?_
    refine w_iload dX7_isIt_43 rfl ?_
    refine x_puti (ci := 7) (k := 46) dX7_isIt_45 rfl (by decide) (by decide) (by omega) fl_X7_335 rfl rfl ?_
    refine w_aload_n dX7_isIt_48 rfl ?_
    refine w_iload dX7_isIt_49 rfl ?_
    refine x_puti (ci := 7) (k := 47) dX7_isIt_51 rfl (by decide) (by decide) (by omega) fl_X7_338 rfl rfl ?_
    rw [hI9]
    refine w_aload_n dX7_isIt_54 rfl ?_
    refine w_aload_n dX7_isIt_55 rfl ?_
    refine y_callV dX7_isIt_56 lk_X7_341 [] rfl (m_here E l hR hs h9) (g_recv.obj (ci := 7) rfl (by decide) (show 79 < N by omega)) rfl ⟨⟨by decide, by decide⟩, by decide, by decide⟩ (lb rfl) ?_
    refine w_iload_n dX7_isIt_59 rfl ?_
    refine w_iconst (v := 2) dX7_isIt_60 (by decide) ?_
    refine w_icmp_ne (tgt := 71) dX7_isIt_61 (by decide) (fun c_61 => ?_) (fun c_61 => absurd c_61 ((show ¬ (0 : Int32) = 2 from by decide)))
    refine w_iload dX7_isIt_71 rfl ?_
    refine w_iload_n dX7_isIt_73 rfl ?_
    refine y_callS dX7_isIt_74 lk_X7_316 [.int (nI y.1)] rfl (m_weight E l _ (by omega)) rfl ⟨⟨by decide, by decide⟩, by decide, by decide⟩ (lb rfl) ?_
    refine w_imul dX7_isIt_77 ?_
    refine w_st (show _ = [.int (nI (y.2 * 2 ^ (4 * y.1))), .int (nI (hAt s)), .ref 79] from by rw [← pk_mul]; rfl) ?_
    refine w_iload_n dX7_isIt_78 rfl ?_
    refine w_iconst (v := 1) dX7_isIt_79 (by decide) ?_
    refine w_icmp_ne (tgt := 94) dX7_isIt_80 (by decide) (fun c_80 => ?_) (fun c_80 => absurd c_80 ((show ¬ (0 : Int32) = 1 from by decide)))
    refine w_iconst (v := 0) dX7_isIt_94 (by decide) ?_
    refine w_iadd dX7_isIt_95 ?_
    refine w_st (show _ = [.int (nI (y.2 * 2 ^ (4 * y.1) + 0)), .int (nI (hAt s)), .ref 79] from by rw [← nI_add]; rfl) ?_
    refine w_isub dX7_isIt_96 ?_
    rw [pk_sub (by omega)]
    refine x_puti (ci := 7) (k := 48) dX7_isIt_97 rfl (by decide) (by decide) (by omega) fl_X7_344 rfl rfl ?_
    refine w_iconst (v := 1) dX7_isIt_100 (by decide) ?_
    refine w_iret dX7_isIt_101 rfl rfl ⟨_, _, rfl, ⟨rfl, fin⟩, rfl⟩ (by decide) (by decide)
  · have hw1 : y.1 < y.2.1 ∧ y.2.1 < 4 := ⟨hw.1, hw.2.1⟩
    have hm' : y.2.2 * 2 ^ (4 * y.1) + y.2.2 * 2 ^ (4 * y.2.1) ≤ hAt s := hm
    refine w_aload_n dX7_isIt_0 rfl ?_
    refine x_geti (ci := 7) (k := 49) dX7_isIt_1 rfl (by decide) (by decide) (by omega) fl_X7_326 rfl ?_
    rw [hj]
    refine w_iload_n dX7_isIt_4 rfl ?_
    refine w_icmp_ne (tgt := 12) dX7_isIt_5 (by decide) (fun c_5 => absurd (rfl) c_5) (fun c_5 => ?_)
    refine w_iconst (v := 1) dX7_isIt_8 (by decide) ?_
    refine w_goto (tgt := 13) dX7_isIt_9 (by decide) ?_
    refine w_istore dX7_isIt_13 (by decide) rfl ?_
    refine w_aload_n dX7_isIt_15 rfl ?_
    refine w_dup dX7_isIt_16 rfl ?_
    refine x_geti (ci := 7) (k := 49) dX7_isIt_17 rfl (by decide) (by decide) (by omega) fl_X7_326 rfl ?_
    rw [hj]
    refine w_iconst (v := 1) dX7_isIt_20 (by decide) ?_
    refine w_iadd dX7_isIt_21 ?_
    rw [nI_1]
    refine x_puti (ci := 7) (k := 49) dX7_isIt_22 rfl (by decide) (by decide) (by omega) fl_X7_326 rfl rfl ?_
    refine w_iload dX7_isIt_25 rfl ?_
    refine w_if_ne (tgt := 32) dX7_isIt_27 (by decide) (fun c_27 => ?_) (fun c_27 => absurd c_27 ((by decide)))
    refine w_aload_n dX7_isIt_32 rfl ?_
    refine w_iload_n dX7_isIt_33 rfl ?_
    refine x_puti (ci := 7) (k := 44) dX7_isIt_34 rfl (by decide) (by decide) (by omega) fl_X7_329 rfl rfl ?_
    refine w_aload_n dX7_isIt_37 rfl ?_
    refine w_iload_n dX7_isIt_38 rfl ?_
    refine x_puti (ci := 7) (k := 45) dX7_isIt_39 rfl (by decide) (by decide) (by omega) fl_X7_332 rfl rfl ?_
    refine w_aload_n dX7_isIt_42 rfl ?_
    refine w_iload dX7_isIt_43 rfl ?_
    refine x_puti (ci := 7) (k := 46) dX7_isIt_45 rfl (by decide) (by decide) (by omega) fl_X7_335 rfl rfl ?_
    refine w_aload_n dX7_isIt_48 rfl ?_
    refine w_iload dX7_isIt_49 rfl ?_
    refine x_puti (ci := 7) (k := 47) dX7_isIt_51 rfl (by decide) (by decide) (by omega) fl_X7_338 rfl rfl ?_
    rw [hI9]
    refine w_aload_n dX7_isIt_54 rfl ?_
    refine w_aload_n dX7_isIt_55 rfl ?_
    refine y_callV dX7_isIt_56 lk_X7_341 [] rfl (m_here E l hR hs h9) (g_recv.obj (ci := 7) rfl (by decide) (show 79 < N by omega)) rfl ⟨⟨by decide, by decide⟩, by decide, by decide⟩ (lb rfl) ?_
    refine w_iload_n dX7_isIt_59 rfl ?_
    refine w_iconst (v := 2) dX7_isIt_60 (by decide) ?_
    refine w_icmp_ne (tgt := 71) dX7_isIt_61 (by decide) (fun c_61 => ?_) (fun c_61 => absurd c_61 ((show ¬ (1 : Int32) = 2 from by decide)))
    refine w_iload dX7_isIt_71 rfl ?_
    refine w_iload_n dX7_isIt_73 rfl ?_
    refine y_callS dX7_isIt_74 lk_X7_316 [.int (nI y.1)] rfl (m_weight E l _ (by omega)) rfl ⟨⟨by decide, by decide⟩, by decide, by decide⟩ (lb rfl) ?_
    refine w_imul dX7_isIt_77 ?_
    refine w_st (show _ = [.int (nI (y.2.2 * 2 ^ (4 * y.1))), .int (nI (hAt s)), .ref 79] from by rw [← pk_mul]; rfl) ?_
    refine w_iload_n dX7_isIt_78 rfl ?_
    refine w_iconst (v := 1) dX7_isIt_79 (by decide) ?_
    refine w_icmp_ne (tgt := 94) dX7_isIt_80 (by decide) (fun c_80 => absurd ((show (1 : Int32) = 1 from rfl)) c_80) (fun c_80 => ?_)
    refine w_iload dX7_isIt_83 rfl ?_
    refine w_iload dX7_isIt_85 rfl ?_
    refine y_callS dX7_isIt_87 lk_X7_316 [.int (nI y.2.1)] rfl (m_weight E l _ (by omega)) rfl ⟨⟨by decide, by decide⟩, by decide, by decide⟩ (lb rfl) ?_
    refine w_imul dX7_isIt_90 ?_
    refine w_st (show _ = [.int (nI (y.2.2 * 2 ^ (4 * y.2.1))), .int (nI (y.2.2 * 2 ^ (4 * y.1))), .int (nI (hAt s)), .ref 79] from by rw [← pk_mul y.2.2 (2 ^ (4 * y.2.1))]; rfl) ?_
    refine w_goto (tgt := 95) dX7_isIt_91 (by decide) ?_
    refine w_iadd dX7_isIt_95 ?_
    rw [nI_add]
    refine w_isub dX7_isIt_96 ?_
    rw [pk_sub (by omega)]
    refine x_puti (ci := 7) (k := 48) dX7_isIt_97 rfl (by decide) (by decide) (by omega) fl_X7_344 rfl rfl ?_
    refine w_iconst (v := 1) dX7_isIt_100 (by decide) ?_
    refine w_iret dX7_isIt_101 rfl rfl ⟨_, _, rfl, ⟨rfl, fin⟩, rfl⟩ (by decide) (by decide)
  · have hm' : 16 ^ s.hs.length ≤ hAt s := hm
    refine w_aload_n dX7_isIt_0 rfl ?_
    refine x_geti (ci := 7) (k := 49) dX7_isIt_1 rfl (by decide) (by decide) (by omega) fl_X7_326 rfl ?_
    rw [hj]
    refine w_iload_n dX7_isIt_4 rfl ?_
    refine w_icmp_ne (tgt := 12) dX7_isIt_5 (by decide) (fun c_5 => absurd (rfl) c_5) (fun c_5 => ?_)
    refine w_iconst (v := 1) dX7_isIt_8 (by decide) ?_
    refine w_goto (tgt := 13) dX7_isIt_9 (by decide) ?_
    refine w_istore dX7_isIt_13 (by decide) rfl ?_
    refine w_aload_n dX7_isIt_15 rfl ?_
    refine w_dup dX7_isIt_16 rfl ?_
    refine x_geti (ci := 7) (k := 49) dX7_isIt_17 rfl (by decide) (by decide) (by omega) fl_X7_326 rfl ?_
    rw [hj]
    refine w_iconst (v := 1) dX7_isIt_20 (by decide) ?_
    refine w_iadd dX7_isIt_21 ?_
    rw [nI_1]
    refine x_puti (ci := 7) (k := 49) dX7_isIt_22 rfl (by decide) (by decide) (by omega) fl_X7_326 rfl rfl ?_
    refine w_iload dX7_isIt_25 rfl ?_
    refine w_if_ne (tgt := 32) dX7_isIt_27 (by decide) (fun c_27 => ?_) (fun c_27 => absurd c_27 ((by decide)))
    refine w_aload_n dX7_isIt_32 rfl ?_
    refine w_iload_n dX7_isIt_33 rfl ?_
    refine x_puti (ci := 7) (k := 44) dX7_isIt_34 rfl (by decide) (by decide) (by omega) fl_X7_329 rfl rfl ?_
    refine w_aload_n dX7_isIt_37 rfl ?_
    refine w_iload_n dX7_isIt_38 rfl ?_
    refine x_puti (ci := 7) (k := 45) dX7_isIt_39 rfl (by decide) (by decide) (by omega) fl_X7_332 rfl rfl ?_
    refine w_aload_n dX7_isIt_42 rfl ?_
    refine w_iload dX7_isIt_43 rfl ?_
    refine x_puti (ci := 7) (k := 46) dX7_isIt_45 rfl (by decide) (by decide) (by omega) fl_X7_335 rfl rfl ?_
    refine w_aload_n dX7_isIt_48 rfl ?_
    refine w_iload dX7_isIt_49 rfl ?_
    refine x_puti (ci := 7) (k := 47) dX7_isIt_51 rfl (by decide) (by decide) (by omega) fl_X7_338 rfl rfl ?_
    rw [hI9]
    refine w_aload_n dX7_isIt_54 rfl ?_
    refine w_aload_n dX7_isIt_55 rfl ?_
    refine y_callV dX7_isIt_56 lk_X7_341 [] rfl (m_here E l hR hs h9) (g_recv.obj (ci := 7) rfl (by decide) (show 79 < N by omega)) rfl ⟨⟨by decide, by decide⟩, by decide, by decide⟩ (lb rfl) ?_
    refine w_iload_n dX7_isIt_59 rfl ?_
    refine w_iconst (v := 2) dX7_isIt_60 (by decide) ?_
    refine w_icmp_ne (tgt := 71) dX7_isIt_61 (by decide) (fun c_61 => absurd ((show (2 : Int32) = 2 from rfl)) c_61) (fun c_61 => ?_)
    refine w_aload_n dX7_isIt_64 rfl ?_
    refine y_callV dX7_isIt_65 lk_X7_286 [] rfl (m_positions E l hR h9.1 h4) (g_recv.obj (ci := 7) rfl (by decide) (show 79 < N by omega)) rfl ⟨⟨by decide, by decide⟩, by decide, by decide⟩ (lb rfl) ?_
    refine w_goto (tgt := 96) dX7_isIt_68 (by decide) ?_
    refine w_isub dX7_isIt_96 ?_
    rw [pk_sub (by omega)]
    refine x_puti (ci := 7) (k := 48) dX7_isIt_97 rfl (by decide) (by decide) (by omega) fl_X7_344 rfl rfl ?_
    refine w_iconst (v := 1) dX7_isIt_100 (by decide) ?_
    refine w_iret dX7_isIt_101 rfl rfl ⟨_, _, rfl, ⟨rfl, fin⟩, rfl⟩ (by decide) (by decide)
end MM
