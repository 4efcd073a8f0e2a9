/-! isSum, refuses -/
section ISS
variable (E : GE) (l : Launch)
variable {I I9 : Nat → Nat → Int32} {J : Nat → Nat → Int64} {R : Nat → Nat → Option Nat} {D : Nat → Nat → UInt64} {sw ex : Bool} {A : AS} {n m : Nat}
set_option maxRecDepth 100000 in
theorem is_t (hl : lk R 79 sw) (hn : n < 90000) (hm : m ≤ n + 6) (f9 : frM I I9) (h9 : rC I9 J sw A m) : g_Wp E l mL_isSum { frames := 7, cells := 0, slots := 0, locals := 162 } (g_Fin E (g_ri (qA 1 I J sw A (n + 10)) J R D 79 ex) 0 0) 0 0 29 [(0, .ref 0)] [] (I9, J, R, D, 79, ex) := by
  refine w_aload_n dL_isSum_29 rfl ?_
  refine w_iconst (v := 4) dL_isSum_30 (by decide) ?_
  refine v_callV dL_isSum_31 lk_L_77 [.int (nI 4)] rfl (q_size E l hl h9 (by omega) (w := 4) (by decide)) (g_recv.obj (ci := 6) rfl (by decide) (show 0 < 79 by decide)) rfl ⟨⟨by decide, by decide⟩, by decide, by decide⟩ (lb rfl) (fun x_31 I1 h_31 => ?_)
  obtain ⟨hx, f1, h1⟩ := h_31
  subst hx
  refine w_iconst (v := 1) dL_isSum_34 (by decide) ?_
  refine w_icmp_eq (tgt := 57) dL_isSum_35 (by decide) (fun c_35 => ?_) (fun c_35 => ?_)
  · refine w_iconst (v := 1) dL_isSum_57 (by decide) ?_
    refine w_goto (tgt := 62) dL_isSum_58 (by decide) ?_
    first | exact w_iret dL_isSum_62 rfl (by rfl) ⟨_, _, rfl, ⟨rfl, ((f9.trans f1).trans f2).trans f3, h3.mono (by omega)⟩, rfl⟩ (by decide) (by decide) | exact w_iret dL_isSum_62 rfl (by rfl) ⟨_, _, rfl, ⟨rfl, f9.trans f1, h1.mono (by omega)⟩, rfl⟩ (by decide) (by decide)
  · have hmi : A.st.mi = false := by cases q : A.st.mi with | false => rfl | true => exact absurd (b2i_1.mpr q) c_35
    have eW : (val A.cf A.st.pos).1 = decide ((val A.cf A.st.pos).2.2 ≠ 0) := val_norm h1.m4.1 hmi _ h1.m4.2.1
    have hV : (val A.cf A.st.pos).2.2 < 64 := Nat.lt_succ_of_le (Nat.le_trans (val_le h1.m4.1 _).2 (wt_le h1.m4.2.1))
    refine w_aload_n dL_isSum_38 rfl ?_
    refine v_callV dL_isSum_39 lk_L_98 [] rfl (q_isWon E l hl h1 (by omega)) (g_recv.obj (ci := 6) rfl (by decide) (show 0 < 79 by decide)) rfl ⟨⟨by decide, by decide⟩, by decide, by decide⟩ (lb rfl) (fun x_39 I2 h_39 => ?_)
    obtain ⟨hx, f2, h2⟩ := h_39
    subst hx
    refine w_aload_n dL_isSum_42 rfl ?_
    refine v_callV dL_isSum_43 lk_L_95 [] rfl (q_value E l hl h2 (by omega)) (g_recv.obj (ci := 6) rfl (by decide) (show 0 < 79 by decide)) rfl ⟨⟨by decide, by decide⟩, by decide, by decide⟩ (lb rfl) (fun x_43 I3 h_43 => ?_)
    obtain ⟨hx, f3, h3⟩ := h_43
    subst hx
    refine w_if_eq (tgt := 53) dL_isSum_46 (by decide) (fun c_46 => ?_) (fun c_46 => ?_)
    · refine w_iconst (v := 0) dL_isSum_53 (by decide) ?_
      refine w_icmp_ne (tgt := 61) dL_isSum_54 (by decide) (fun c_54 => absurd ((by rw [eW]; first | (rw [decide_eq_false (show ¬ (val A.cf A.st.pos).2.2 ≠ 0 from fun q => q (n_eq (b := 0) c_46))]; rfl) | (rw [decide_eq_true (show (val A.cf A.st.pos).2.2 ≠ 0 from fun q => c_46 (congrArg nI q))]; rfl))) c_54) (fun c_54 => ?_)
      refine w_iconst (v := 1) dL_isSum_57 (by decide) ?_
      refine w_goto (tgt := 62) dL_isSum_58 (by decide) ?_
      first | exact w_iret dL_isSum_62 rfl (by rfl) ⟨_, _, rfl, ⟨rfl, ((f9.trans f1).trans f2).trans f3, h3.mono (by omega)⟩, rfl⟩ (by decide) (by decide) | exact w_iret dL_isSum_62 rfl (by rfl) ⟨_, _, rfl, ⟨rfl, f9.trans f1, h1.mono (by omega)⟩, rfl⟩ (by decide) (by decide)
    · refine w_iconst (v := 1) dL_isSum_49 (by decide) ?_
      refine w_goto (tgt := 54) dL_isSum_50 (by decide) ?_
      refine w_icmp_ne (tgt := 61) dL_isSum_54 (by decide) (fun c_54 => absurd ((by rw [eW]; first | (rw [decide_eq_false (show ¬ (val A.cf A.st.pos).2.2 ≠ 0 from fun q => q (n_eq (b := 0) c_46))]; rfl) | (rw [decide_eq_true (show (val A.cf A.st.pos).2.2 ≠ 0 from fun q => c_46 (congrArg nI q))]; rfl))) c_54) (fun c_54 => ?_)
      refine w_iconst (v := 1) dL_isSum_57 (by decide) ?_
      refine w_goto (tgt := 62) dL_isSum_58 (by decide) ?_
      first | exact w_iret dL_isSum_62 rfl (by rfl) ⟨_, _, rfl, ⟨rfl, ((f9.trans f1).trans f2).trans f3, h3.mono (by omega)⟩, rfl⟩ (by decide) (by decide) | exact w_iret dL_isSum_62 rfl (by rfl) ⟨_, _, rfl, ⟨rfl, f9.trans f1, h1.mono (by omega)⟩, rfl⟩ (by decide) (by decide)
set_option maxRecDepth 100000 in
theorem c_L_isSum (hl : lk R 79 sw) (h : rC I J sw A n) (hn : n < 90000) (h3h : A.st.hs.length ≤ 3) : g_Ct E l mL_isSum 7 162 0 0 [.ref 0] (I, J, R, D, 79, ex) (g_ri (qA 1 I J sw A (n + 10)) J R D 79 ex) := by
  refine g_Ct.of (by decide +kernel) (lb rfl) ?_
  have hok := h.2.2.2.2.1
  have hps : A.st.ps < 4 := by have := hok.2.2.1; omega
  have hs3 : A.ru.2.2 < 65536 := h.2.1.2.2
  refine w_aload_n dL_isSum_0 rfl ?_
  refine w_iconst (v := 3) dL_isSum_1 (by decide) ?_
  refine v_callV dL_isSum_2 lk_L_77 [.int (nI 3)] rfl (q_size E l hl h (by omega) (w := 3) (by decide)) (g_recv.obj (ci := 6) rfl (by decide) (show 0 < 79 by decide)) rfl ⟨⟨by decide, by decide⟩, by decide, by decide⟩ (lb rfl) (fun x_2 I1 h_2 => ?_)
  obtain ⟨hx, f1, h1⟩ := h_2
  subst hx
  refine w_if_ne (tgt := 29) dL_isSum_5 (by decide) (fun c_5 => ?_) (fun c_5 => ?_)
  · first | exact is_t E l hl hn (by omega) ((f1.trans f2).trans f3) h3 | exact is_t E l hl hn (by omega) (f1.trans f2) h2 | exact is_t E l hl hn (by omega) f1 h1
  · refine w_aload_n dL_isSum_8 rfl ?_
    refine w_iconst (v := 2) dL_isSum_9 (by decide) ?_
    refine v_callV dL_isSum_10 lk_L_77 [.int (nI 2)] rfl (q_size E l hl h1 (by omega) (w := 2) (by decide)) (g_recv.obj (ci := 6) rfl (by decide) (show 0 < 79 by decide)) rfl ⟨⟨by decide, by decide⟩, by decide, by decide⟩ (lb rfl) (fun x_10 I2 h_10 => ?_)
    obtain ⟨hx, f2, h2⟩ := h_10
    subst hx
    refine w_if_ne (tgt := 29) dL_isSum_13 (by decide) (fun c_13 => ?_) (fun c_13 => ?_)
    · first | exact is_t E l hl hn (by omega) ((f1.trans f2).trans f3) h3 | exact is_t E l hl hn (by omega) (f1.trans f2) h2 | exact is_t E l hl hn (by omega) f1 h1
    · refine w_aload_n dL_isSum_16 rfl ?_
      refine v_callV dL_isSum_17 lk_L_95 [] rfl (q_value E l hl h2 (by omega)) (g_recv.obj (ci := 6) rfl (by decide) (show 0 < 79 by decide)) rfl ⟨⟨by decide, by decide⟩, by decide, by decide⟩ (lb rfl) (fun x_17 I3 h_17 => ?_)
      obtain ⟨hx, f3, h3⟩ := h_17
      subst hx
      refine w_aload_n dL_isSum_20 rfl ?_
      refine y_callV dL_isSum_21 lk_L_109 [] rfl (c_nimSum E l hl h3) (g_recv.obj (ci := 6) rfl (by decide) (show 0 < 79 by decide)) rfl ⟨⟨by decide, by decide⟩, by decide, by decide⟩ (lb rfl) ?_
      refine w_icmp_eq (tgt := 29) dL_isSum_24 (by decide) (fun c_24 => ?_) (fun c_24 => absurd ((val_nim hok h3h (n_eq (b := 0) c_5) (n_eq (b := 0) c_13))) c_24)
      first | exact is_t E l hl hn (by omega) ((f1.trans f2).trans f3) h3 | exact is_t E l hl hn (by omega) (f1.trans f2) h2 | exact is_t E l hl hn (by omega) f1 h1
end ISS
section RFS
variable (E : GE) (l : Launch)
variable {I : Nat → Nat → Int32} {J : Nat → Nat → Int64} {R : Nat → Nat → Option Nat} {D : Nat → Nat → UInt64} {sw ex : Bool} {A : AS} {n : Nat}
set_option maxRecDepth 100000 in
theorem c_L_refuses (hl : lk R 79 sw) (h : rC I J sw A n) (hn : n < 90000) (hp : A.st.ps = 0) : g_Ct E l mL_refuses 7 143 1 6 [.ref 0] (I, J, R, D, 79, ex) (g_ri (qA 1 I J sw A (n + 1)) J R D 79 false) := by
  refine g_Ct.of (by decide +kernel) (lb rfl) ?_
  refine w_aload_n dL_refuses_0 rfl ?_
  refine w_callV dL_refuses_1 lk_L_112 (c_pass_x E l hl h (by omega) (by omega)) (g_recv.obj (ci := 6) rfl (by decide) (show 0 < 79 by decide)) rfl rfl ⟨⟨lb rfl, lb rfl⟩, by decide, by decide⟩ (lb rfl) (fun v w1 hq => ?_) (fun X w1 hq => ?_)
  · obtain ⟨_, hq1, _⟩ := hq
    cases hq1
  · obtain ⟨I1, hq1, ⟨f1, h1⟩, hq3⟩ := hq
    cases hq1
    subst hq3
    refine w_catch (X := "java/lang/IllegalStateException") (a := 254) (b := 258) (by decide +kernel) [] (0, 5, 8, 115) [] rfl (fun z hz => (List.not_mem_nil hz).elim) (by decide) (by decide) cl_L_115 (fun q => ?_)
    refine w_astoreR_n dL_refuses_8 (by decide) rfl ?_
    refine w_iconst (v := 1) dL_refuses_9 (by decide) ?_
    exact w_iret dL_refuses_10 rfl (by rfl) ⟨_, _, rfl, ⟨rfl, f1, h1⟩, rfl⟩ (by decide) (by decide)
end RFS
