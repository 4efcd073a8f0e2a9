/-! HeapGamesModel: bestMove, best -/
def blO (os : List Rs) (o : Option Nat) : Nat := match o with
  | none => 0
  | some b => (os.getD b (false, 0, 0)).2.1
section MS
variable (E : GE) (l : Launch)
variable {I : Nat → Nat → Int32} {J : Nat → Nat → Int64} {R : Nat → Nat → Option Nat} {D : Nat → Nat → UInt64} {N : Nat} {ex : Bool} {A : AS} {c : Nat}
set_option maxRecDepth 100000 in
theorem m_bestMove (hR : lkM R N) (hA : aOK A) (h : rM I A c) (hc : c ≤ 1000) : g_Ct E l mX7_bestMove 5 117 0 0 [.ref 79] (I, J, R, D, N, ex) (g_ri (fun y I' => y = o2i (bsF (opv A.cf A.st.pos) (mvs A.cf A.st.pos).length) ∧ frO I I' ∧ rM I' A (c + 1)) J R D N ex) := by
  refine g_Ct.of (by decide +kernel) (lb rfl) ?_
  have hN := hR.1
  have hlen : (mvs A.cf A.st.pos).length ≤ 81 := mvs_81 (cf_ok hA.2.1 (hA.2.2.1.rs hA.1)) _
  have hm4 : A.cf.m ≤ 4 := by rw [cf_m A]; exact hA.2.2.1.1
  have hpo := hA.2.2.1.pos
  have hbm := bm_bs hm4 hpo
  have hol : (opv A.cf A.st.pos).length = (mvs A.cf A.st.pos).length := List.length_map _
  have hos : ∀ x ∈ opv A.cf A.st.pos, rsL x := fun x hx => by have := opv_lt hm4 hpo hx; exact ⟨by omega, by omega⟩
  have hog : ∀ k (hk : k < (mvs A.cf A.st.pos).length), (opv A.cf A.st.pos).getD k (false, 0, 0) = val A.cf (A.st.pos - ((mvs A.cf A.st.pos)[k]).code) := fun k hk => opv_getD hk
  have hb63 : ∀ k, ((opv A.cf A.st.pos).getD k (false, 0, 0)).2.1 < 64 := fun k => by
    rcases Nat.lt_or_ge k (opv A.cf A.st.pos).length with z | z
    · rw [List.getD_eq_getElem?_getD, List.getElem?_eq_getElem z]; exact (hos _ (List.getElem_mem z)).1
    · rw [List.getD_eq_getElem?_getD, List.getElem?_eq_none z]; decide
  rw [hol] at hbm
  generalize hw : (val A.cf A.st.pos).1 = w at *
  generalize hoe : opv A.cf A.st.pos = os at *
  have loop : ∀ (f k : Nat) (I' : Nat → Nat → Int32), k + f = (mvs A.cf A.st.pos).length → frO I I' → rM I' A (c + 1) → tbA I' A → g_Wp E l mX7_bestMove { frames := 5, cells := 0, slots := 0, locals := 117 } (g_Fin E (g_ri (fun y I' => y = o2i (bsF os (mvs A.cf A.st.pos).length) ∧ frO I I' ∧ rM I' A (c + 1)) J R D N ex) 0 0) 0 0 20 [(4, .int (nI k)), (3, .int (nI (blO os (bmF w os k)))), (2, .int (o2i (bmF w os k))), (1, .int (b2i w)), (0, .ref 79)] [] (I', J, R, D, N, ex) := by
    intro f
    induction f with
    | zero =>
      intro k I' hk g1 g2 g3
      obtain rfl : k = (mvs A.cf A.st.pos).length := by omega
      refine w_aload_n dX7_bestMove_20 rfl ?_
      refine w_iload dX7_bestMove_21 rfl ?_
      refine v_callV dX7_bestMove_23 lk_X7_354 [.int (nI (mvs A.cf A.st.pos).length)] rfl (m_finds E l hR hA g2 (nI (mvs A.cf A.st.pos).length)) (g_recv.obj (ci := 7) rfl (by decide) (show 79 < N by omega)) rfl ⟨⟨by decide, by decide⟩, by decide, by decide⟩ (lb rfl) (fun x_23 I2 h_23 => ?_)
      obtain ⟨k1, k2⟩ := h_23
      have k3 := fd_off hlen (fun i hi q => by have := n_eq q; omega) k2
      refine w_if_eq (tgt := 93) dX7_bestMove_26 (by decide) (fun c_26 => ?_) (fun c_26 => absurd (k3) c_26)
      refine w_iload_n dX7_bestMove_93 rfl ?_
      refine w_iret dX7_bestMove_94 rfl rfl ⟨_, _, rfl, ⟨by rw [← hbm], g1.trans k1.o, g2.z k1⟩, rfl⟩ (by decide) (by decide)
    | succ f ih =>
      intro k I' hk g1 g2 g3
      have hkl : k < (mvs A.cf A.st.pos).length := by omega
      have hgk := hog k hkl
      have hbk := hb63 k
      have skip : bmF w os (k + 1) = bmF w os k → ∀ I', frO I I' → rM I' A (c + 1) → tbA I' A → g_Wp E l mX7_bestMove { frames := 5, cells := 0, slots := 0, locals := 117 } (g_Fin E (g_ri (fun y I' => y = o2i (bsF os (mvs A.cf A.st.pos).length) ∧ frO I I' ∧ rM I' A (c + 1)) J R D N ex) 0 0) 0 0 20 [(4, .int (nI (k + 1))), (3, .int (nI (blO os (bmF w os k)))), (2, .int (o2i (bmF w os k))), (1, .int (b2i w)), (0, .ref 79)] [] (I', J, R, D, N, ex) := by
        intro e I' g1 g2 g3
        have t := ih (k + 1) I' (by omega) g1 g2 g3
        rw [e] at t
        exact t
      have put : bmF w os (k + 1) = some k → ∀ I', frO I I' → rM I' A (c + 1) → tbA I' A → g_Wp E l mX7_bestMove { frames := 5, cells := 0, slots := 0, locals := 117 } (g_Fin E (g_ri (fun y I' => y = o2i (bsF os (mvs A.cf A.st.pos).length) ∧ frO I I' ∧ rM I' A (c + 1)) J R D N ex) 0 0) 0 0 20 [(4, .int (nI (k + 1))), (3, .int (nI (os.getD k (false, 0, 0)).2.1)), (2, .int (nI k)), (1, .int (b2i w)), (0, .ref 79)] [] (I', J, R, D, N, ex) := by
        intro e I' g1 g2 g3
        have t := ih (k + 1) I' (by omega) g1 g2 g3
        rw [e] at t
        exact t
      rw [bmF] at skip put
      have hbb : ∀ b, bmF w os k = some b → b < k := fun b hb => bmF_lt hb
      generalize hbe : bmF w os k = ob at *
      generalize hgd : os.getD k (false, 0, 0) = xk at *
      cases w with
      | true =>
        cases hx1 : xk.1 with
        | true =>
          rw [hx1, Bool.true_and, if_pos rfl] at skip
          refine w_aload_n dX7_bestMove_20 rfl ?_
          refine w_iload dX7_bestMove_21 rfl ?_
          refine v_callV dX7_bestMove_23 lk_X7_354 [.int (nI k)] rfl (m_finds E l hR hA g2 (nI k)) (g_recv.obj (ci := 7) rfl (by decide) (show 79 < N by omega)) rfl ⟨⟨by decide, by decide⟩, by decide, by decide⟩ (lb rfl) (fun x_23 I2 h_23 => ?_)
          obtain ⟨k1, k2⟩ := h_23
          have k3 := fd_at hlen hkl k2
          obtain ⟨t1, t2, t3⟩ := tb_at hA (g3.z k1) (getElem_in hkl)
          rw [← hgk] at t2 t3
          refine w_if_eq (tgt := 93) dX7_bestMove_26 (by decide) (fun c_26 => absurd c_26 ((by rw [k3.1]; decide))) (fun c_26 => ?_)
          refine w_aload_n dX7_bestMove_29 rfl ?_
          refine w_aload_n dX7_bestMove_30 rfl ?_
          refine x_geti (ci := 7) (k := 48) dX7_bestMove_31 rfl (by decide) (by decide) (by omega) fl_X7_344 rfl ?_
          rw [k3.2.2.2.2.2]
          refine y_callV dX7_bestMove_34 lk_X7_298 [.int (nI (toA A.st (mvs A.cf A.st.pos)[k]))] rfl (m_lengthAt E l hR t1 t2 t3) (g_recv.obj (ci := 7) rfl (by decide) (show 79 < N by omega)) rfl ⟨⟨by decide, by decide⟩, by decide, by decide⟩ (lb rfl) ?_
          refine w_istore dX7_bestMove_37 (by decide) rfl ?_
          refine w_iload_n dX7_bestMove_39 rfl ?_
          refine w_if_eq (tgt := 54) dX7_bestMove_40 (by decide) (fun c_40 => absurd c_40 ((by decide))) (fun c_40 => ?_)
          refine w_aload_n dX7_bestMove_43 rfl ?_
          refine w_aload_n dX7_bestMove_44 rfl ?_
          refine x_geti (ci := 7) (k := 48) dX7_bestMove_45 rfl (by decide) (by decide) (by omega) fl_X7_344 rfl ?_
          rw [k3.2.2.2.2.2]
          refine y_callV dX7_bestMove_48 lk_X7_301 [.int (nI (toA A.st (mvs A.cf A.st.pos)[k]))] rfl (m_isWonAt E l hR t1 t2 t3) (g_recv.obj (ci := 7) rfl (by decide) (show 79 < N by omega)) rfl ⟨⟨by decide, by decide⟩, by decide, by decide⟩ (lb rfl) ?_
          rw [hx1]
          refine w_if_ne (tgt := 87) dX7_bestMove_51 (by decide) (fun c_51 => ?_) (fun c_51 => absurd c_51 ((by decide)))
          refine w_iinc (v := nI (k + 1)) dX7_bestMove_87 rfl (nI_inc _) (by decide) rfl ?_
          refine w_goto (tgt := 20) dX7_bestMove_90 (by decide) ?_
          exact w_lv [4, 3, 2, 1, 0] (skip rfl I2 (g1.trans k1.o) (g2.z k1) (g3.z k1))
        | false =>
          rw [hx1, Bool.true_and, if_neg (by decide)] at skip put
          cases ob with
          | none =>
            refine w_aload_n dX7_bestMove_20 rfl ?_
            refine w_iload dX7_bestMove_21 rfl ?_
            refine v_callV dX7_bestMove_23 lk_X7_354 [.int (nI k)] rfl (m_finds E l hR hA g2 (nI k)) (g_recv.obj (ci := 7) rfl (by decide) (show 79 < N by omega)) rfl ⟨⟨by decide, by decide⟩, by decide, by decide⟩ (lb rfl) (fun x_23 I2 h_23 => ?_)
            obtain ⟨k1, k2⟩ := h_23
            have k3 := fd_at hlen hkl k2
            obtain ⟨t1, t2, t3⟩ := tb_at hA (g3.z k1) (getElem_in hkl)
            rw [← hgk] at t2 t3
            refine w_if_eq (tgt := 93) dX7_bestMove_26 (by decide) (fun c_26 => absurd c_26 ((by rw [k3.1]; decide))) (fun c_26 => ?_)
            refine w_aload_n dX7_bestMove_29 rfl ?_
            refine w_aload_n dX7_bestMove_30 rfl ?_
            refine x_geti (ci := 7) (k := 48) dX7_bestMove_31 rfl (by decide) (by decide) (by omega) fl_X7_344 rfl ?_
            rw [k3.2.2.2.2.2]
            refine y_callV dX7_bestMove_34 lk_X7_298 [.int (nI (toA A.st (mvs A.cf A.st.pos)[k]))] rfl (m_lengthAt E l hR t1 t2 t3) (g_recv.obj (ci := 7) rfl (by decide) (show 79 < N by omega)) rfl ⟨⟨by decide, by decide⟩, by decide, by decide⟩ (lb rfl) ?_
            refine w_istore dX7_bestMove_37 (by decide) rfl ?_
            refine w_iload_n dX7_bestMove_39 rfl ?_
            refine w_if_eq (tgt := 54) dX7_bestMove_40 (by decide) (fun c_40 => absurd c_40 ((by decide))) (fun c_40 => ?_)
            refine w_aload_n dX7_bestMove_43 rfl ?_
            refine w_aload_n dX7_bestMove_44 rfl ?_
            refine x_geti (ci := 7) (k := 48) dX7_bestMove_45 rfl (by decide) (by decide) (by omega) fl_X7_344 rfl ?_
            rw [k3.2.2.2.2.2]
            refine y_callV dX7_bestMove_48 lk_X7_301 [.int (nI (toA A.st (mvs A.cf A.st.pos)[k]))] rfl (m_isWonAt E l hR t1 t2 t3) (g_recv.obj (ci := 7) rfl (by decide) (show 79 < N by omega)) rfl ⟨⟨by decide, by decide⟩, by decide, by decide⟩ (lb rfl) ?_
            rw [hx1]
            refine w_if_ne (tgt := 87) dX7_bestMove_51 (by decide) (fun c_51 => absurd (rfl) c_51) (fun c_51 => ?_)
            refine w_iload_n dX7_bestMove_54 rfl ?_
            refine w_iconst (v := (-1)) dX7_bestMove_55 (by decide) ?_
            refine w_icmp_eq (tgt := 81) dX7_bestMove_56 (by decide) (fun c_56 => ?_) (fun c_56 => absurd ((show o2i none = -1 from rfl)) c_56)
            refine w_iload dX7_bestMove_81 rfl ?_
            refine w_istore_n dX7_bestMove_83 (by decide) rfl ?_
            refine w_iload dX7_bestMove_84 rfl ?_
            refine w_istore_n dX7_bestMove_86 (by decide) rfl ?_
            refine w_iinc (v := nI (k + 1)) dX7_bestMove_87 rfl (nI_inc _) (by decide) rfl ?_
            refine w_goto (tgt := 20) dX7_bestMove_90 (by decide) ?_
            exact w_lv [4, 3, 2, 1, 0] (put rfl I2 (g1.trans k1.o) (g2.z k1) (g3.z k1))
          | some b =>
            have hbl := hbb b rfl
            have hb2 := hb63 b
            have e0 : bmC true os k b = decide ((os.getD b (false, 0, 0)).2.1 ≤ xk.2.1) := by unfold bmC; rw [if_pos rfl, hgd]
            simp only [e0] at skip put
            refine w_aload_n dX7_bestMove_20 rfl ?_
            refine w_iload dX7_bestMove_21 rfl ?_
            refine v_callV dX7_bestMove_23 lk_X7_354 [.int (nI k)] rfl (m_finds E l hR hA g2 (nI k)) (g_recv.obj (ci := 7) rfl (by decide) (show 79 < N by omega)) rfl ⟨⟨by decide, by decide⟩, by decide, by decide⟩ (lb rfl) (fun x_23 I2 h_23 => ?_)
            obtain ⟨k1, k2⟩ := h_23
            have k3 := fd_at hlen hkl k2
            obtain ⟨t1, t2, t3⟩ := tb_at hA (g3.z k1) (getElem_in hkl)
            rw [← hgk] at t2 t3
            refine w_if_eq (tgt := 93) dX7_bestMove_26 (by decide) (fun c_26 => absurd c_26 ((by rw [k3.1]; decide))) (fun c_26 => ?_)
            refine w_aload_n dX7_bestMove_29 rfl ?_
            refine w_aload_n dX7_bestMove_30 rfl ?_
            refine x_geti (ci := 7) (k := 48) dX7_bestMove_31 rfl (by decide) (by decide) (by omega) fl_X7_344 rfl ?_
            rw [k3.2.2.2.2.2]
            refine y_callV dX7_bestMove_34 lk_X7_298 [.int (nI (toA A.st (mvs A.cf A.st.pos)[k]))] rfl (m_lengthAt E l hR t1 t2 t3) (g_recv.obj (ci := 7) rfl (by decide) (show 79 < N by omega)) rfl ⟨⟨by decide, by decide⟩, by decide, by decide⟩ (lb rfl) ?_
            refine w_istore dX7_bestMove_37 (by decide) rfl ?_
            refine w_iload_n dX7_bestMove_39 rfl ?_
            refine w_if_eq (tgt := 54) dX7_bestMove_40 (by decide) (fun c_40 => absurd c_40 ((by decide))) (fun c_40 => ?_)
            refine w_aload_n dX7_bestMove_43 rfl ?_
            refine w_aload_n dX7_bestMove_44 rfl ?_
            refine x_geti (ci := 7) (k := 48) dX7_bestMove_45 rfl (by decide) (by decide) (by omega) fl_X7_344 rfl ?_
            rw [k3.2.2.2.2.2]
            refine y_callV dX7_bestMove_48 lk_X7_301 [.int (nI (toA A.st (mvs A.cf A.st.pos)[k]))] rfl (m_isWonAt E l hR t1 t2 t3) (g_recv.obj (ci := 7) rfl (by decide) (show 79 < N by omega)) rfl ⟨⟨by decide, by decide⟩, by decide, by decide⟩ (lb rfl) ?_
            rw [hx1]
            refine w_if_ne (tgt := 87) dX7_bestMove_51 (by decide) (fun c_51 => absurd (rfl) c_51) (fun c_51 => ?_)
            refine w_iload_n dX7_bestMove_54 rfl ?_
            refine w_iconst (v := (-1)) dX7_bestMove_55 (by decide) ?_
            refine w_icmp_eq (tgt := 81) dX7_bestMove_56 (by decide) (fun c_56 => absurd c_56 ((show ¬ nI b = -1 from fun q => by have := congrArg Int32.toInt q; rw [nI_toInt (show b < 2 ^ 31 by omega)] at this; have e : (-1 : Int32).toInt = -1 := rfl; omega))) (fun c_56 => ?_)
            refine w_iload_n dX7_bestMove_59 rfl ?_
            refine w_if_eq (tgt := 72) dX7_bestMove_60 (by decide) (fun c_60 => absurd c_60 ((by decide))) (fun c_60 => ?_)
            refine w_iload dX7_bestMove_63 rfl ?_
            refine w_iload_n dX7_bestMove_65 rfl ?_
            refine w_icmp_lt (tgt := 81) dX7_bestMove_66 (by decide) (fun c_66 => ?_) (fun c_66 => ?_)
            · refine w_iload dX7_bestMove_81 rfl ?_
              refine w_istore_n dX7_bestMove_83 (by decide) rfl ?_
              refine w_iload dX7_bestMove_84 rfl ?_
              refine w_istore_n dX7_bestMove_86 (by decide) rfl ?_
              refine w_iinc (v := nI (k + 1)) dX7_bestMove_87 rfl (nI_inc _) (by decide) rfl ?_
              refine w_goto (tgt := 20) dX7_bestMove_90 (by decide) ?_
              first | (have q9 := n_lt (a := xk.2.1) (b := (os.getD b (false, 0, 0)).2.1) c_66; exact w_lv [4, 3, 2, 1, 0] (put (by rw [decide_eq_false (by omega)]; rfl) I2 (g1.trans k1.o) (g2.z k1) (g3.z k1))) | (have q9 := n_nlt (a := xk.2.1) (b := (os.getD b (false, 0, 0)).2.1) c_66; exact w_lv [4, 3, 2, 1, 0] (skip (by rw [decide_eq_true q9]; rfl) I2 (g1.trans k1.o) (g2.z k1) (g3.z k1)))
            · refine w_goto (tgt := 87) dX7_bestMove_69 (by decide) ?_
              refine w_iinc (v := nI (k + 1)) dX7_bestMove_87 rfl (nI_inc _) (by decide) rfl ?_
              refine w_goto (tgt := 20) dX7_bestMove_90 (by decide) ?_
              first | (have q9 := n_lt (a := xk.2.1) (b := (os.getD b (false, 0, 0)).2.1) c_66; exact w_lv [4, 3, 2, 1, 0] (put (by rw [decide_eq_false (by omega)]; rfl) I2 (g1.trans k1.o) (g2.z k1) (g3.z k1))) | (have q9 := n_nlt (a := xk.2.1) (b := (os.getD b (false, 0, 0)).2.1) c_66; exact w_lv [4, 3, 2, 1, 0] (skip (by rw [decide_eq_true q9]; rfl) I2 (g1.trans k1.o) (g2.z k1) (g3.z k1)))
      | false =>
        rw [Bool.false_and, if_neg (by decide)] at skip put
        cases ob with
        | none =>
          refine w_aload_n dX7_bestMove_20 rfl ?_
          refine w_iload dX7_bestMove_21 rfl ?_
          refine v_callV dX7_bestMove_23 lk_X7_354 [.int (nI k)] rfl (m_finds E l hR hA g2 (nI k)) (g_recv.obj (ci := 7) rfl (by decide) (show 79 < N by omega)) rfl ⟨⟨by decide, by decide⟩, by decide, by decide⟩ (lb rfl) (fun x_23 I2 h_23 => ?_)
          obtain ⟨k1, k2⟩ := h_23
          have k3 := fd_at hlen hkl k2
          obtain ⟨t1, t2, t3⟩ := tb_at hA (g3.z k1) (getElem_in hkl)
          rw [← hgk] at t2 t3
          refine w_if_eq (tgt := 93) dX7_bestMove_26 (by decide) (fun c_26 => absurd c_26 ((by rw [k3.1]; decide))) (fun c_26 => ?_)
          refine w_aload_n dX7_bestMove_29 rfl ?_
          refine w_aload_n dX7_bestMove_30 rfl ?_
          refine x_geti (ci := 7) (k := 48) dX7_bestMove_31 rfl (by decide) (by decide) (by omega) fl_X7_344 rfl ?_
          rw [k3.2.2.2.2.2]
          refine y_callV dX7_bestMove_34 lk_X7_298 [.int (nI (toA A.st (mvs A.cf A.st.pos)[k]))] rfl (m_lengthAt E l hR t1 t2 t3) (g_recv.obj (ci := 7) rfl (by decide) (show 79 < N by omega)) rfl ⟨⟨by decide, by decide⟩, by decide, by decide⟩ (lb rfl) ?_
          refine w_istore dX7_bestMove_37 (by decide) rfl ?_
          refine w_iload_n dX7_bestMove_39 rfl ?_
          refine w_if_eq (tgt := 54) dX7_bestMove_40 (by decide) (fun c_40 => ?_) (fun c_40 => absurd (rfl) c_40)
          refine w_iload_n dX7_bestMove_54 rfl ?_
          refine w_iconst (v := (-1)) dX7_bestMove_55 (by decide) ?_
          refine w_icmp_eq (tgt := 81) dX7_bestMove_56 (by decide) (fun c_56 => ?_) (fun c_56 => absurd ((show o2i none = -1 from rfl)) c_56)
          refine w_iload dX7_bestMove_81 rfl ?_
          refine w_istore_n dX7_bestMove_83 (by decide) rfl ?_
          refine w_iload dX7_bestMove_84 rfl ?_
          refine w_istore_n dX7_bestMove_86 (by decide) rfl ?_
          refine w_iinc (v := nI (k + 1)) dX7_bestMove_87 rfl (nI_inc _) (by decide) rfl ?_
          refine w_goto (tgt := 20) dX7_bestMove_90 (by decide) ?_
          exact w_lv [4, 3, 2, 1, 0] (put rfl I2 (g1.trans k1.o) (g2.z k1) (g3.z k1))
        | some b =>
          have hbl := hbb b rfl
          have hb2 := hb63 b
          have e0 : bmC false os k b = decide (xk.2.1 ≤ (os.getD b (false, 0, 0)).2.1) := by unfold bmC; rw [if_neg (by decide), hgd]
          simp only [e0] at skip put
          refine w_aload_n dX7_bestMove_20 rfl ?_
          refine w_iload dX7_bestMove_21 rfl ?_
          refine v_callV dX7_bestMove_23 lk_X7_354 [.int (nI k)] rfl (m_finds E l hR hA g2 (nI k)) (g_recv.obj (ci := 7) rfl (by decide) (show 79 < N by omega)) rfl ⟨⟨by decide, by decide⟩, by decide, by decide⟩ (lb rfl) (fun x_23 I2 h_23 => ?_)
          obtain ⟨k1, k2⟩ := h_23
          have k3 := fd_at hlen hkl k2
          obtain ⟨t1, t2, t3⟩ := tb_at hA (g3.z k1) (getElem_in hkl)
          rw [← hgk] at t2 t3
          refine w_if_eq (tgt := 93) dX7_bestMove_26 (by decide) (fun c_26 => absurd c_26 ((by rw [k3.1]; decide))) (fun c_26 => ?_)
          refine w_aload_n dX7_bestMove_29 rfl ?_
          refine w_aload_n dX7_bestMove_30 rfl ?_
          refine x_geti (ci := 7) (k := 48) dX7_bestMove_31 rfl (by decide) (by decide) (by omega) fl_X7_344 rfl ?_
          rw [k3.2.2.2.2.2]
          refine y_callV dX7_bestMove_34 lk_X7_298 [.int (nI (toA A.st (mvs A.cf A.st.pos)[k]))] rfl (m_lengthAt E l hR t1 t2 t3) (g_recv.obj (ci := 7) rfl (by decide) (show 79 < N by omega)) rfl ⟨⟨by decide, by decide⟩, by decide, by decide⟩ (lb rfl) ?_
          refine w_istore dX7_bestMove_37 (by decide) rfl ?_
          refine w_iload_n dX7_bestMove_39 rfl ?_
          refine w_if_eq (tgt := 54) dX7_bestMove_40 (by decide) (fun c_40 => ?_) (fun c_40 => absurd (rfl) c_40)
          refine w_iload_n dX7_bestMove_54 rfl ?_
          refine w_iconst (v := (-1)) dX7_bestMove_55 (by decide) ?_
          refine w_icmp_eq (tgt := 81) dX7_bestMove_56 (by decide) (fun c_56 => absurd c_56 ((show ¬ nI b = -1 from fun q => by have := congrArg Int32.toInt q; rw [nI_toInt (show b < 2 ^ 31 by omega)] at this; have e : (-1 : Int32).toInt = -1 := rfl; omega))) (fun c_56 => ?_)
          refine w_iload_n dX7_bestMove_59 rfl ?_
          refine w_if_eq (tgt := 72) dX7_bestMove_60 (by decide) (fun c_60 => ?_) (fun c_60 => absurd (rfl) c_60)
          refine w_iload dX7_bestMove_72 rfl ?_
          refine w_iload_n dX7_bestMove_74 rfl ?_
          refine w_icmp_gt (tgt := 81) dX7_bestMove_75 (by decide) (fun c_75 => ?_) (fun c_75 => ?_)
          · refine w_iload dX7_bestMove_81 rfl ?_
            refine w_istore_n dX7_bestMove_83 (by decide) rfl ?_
            refine w_iload dX7_bestMove_84 rfl ?_
            refine w_istore_n dX7_bestMove_86 (by decide) rfl ?_
            refine w_iinc (v := nI (k + 1)) dX7_bestMove_87 rfl (nI_inc _) (by decide) rfl ?_
            refine w_goto (tgt := 20) dX7_bestMove_90 (by decide) ?_
            first | (have q9 := n_lt (a := (os.getD b (false, 0, 0)).2.1) (b := xk.2.1) c_75; exact w_lv [4, 3, 2, 1, 0] (put (by rw [decide_eq_false (by omega)]; rfl) I2 (g1.trans k1.o) (g2.z k1) (g3.z k1))) | (have q9 := n_nlt (a := (os.getD b (false, 0, 0)).2.1) (b := xk.2.1) c_75; exact w_lv [4, 3, 2, 1, 0] (skip (by rw [decide_eq_true q9]; rfl) I2 (g1.trans k1.o) (g2.z k1) (g3.z k1)))
          · refine w_goto (tgt := 87) dX7_bestMove_78 (by decide) ?_
            refine w_iinc (v := nI (k + 1)) dX7_bestMove_87 rfl (nI_inc _) (by decide) rfl ?_
            refine w_goto (tgt := 20) dX7_bestMove_90 (by decide) ?_
            first | (have q9 := n_lt (a := (os.getD b (false, 0, 0)).2.1) (b := xk.2.1) c_75; exact w_lv [4, 3, 2, 1, 0] (put (by rw [decide_eq_false (by omega)]; rfl) I2 (g1.trans k1.o) (g2.z k1) (g3.z k1))) | (have q9 := n_nlt (a := (os.getD b (false, 0, 0)).2.1) (b := xk.2.1) c_75; exact w_lv [4, 3, 2, 1, 0] (skip (by rw [decide_eq_true q9]; rfl) I2 (g1.trans k1.o) (g2.z k1) (g3.z k1)))
  refine w_aload_n dX7_bestMove_0 rfl ?_
  refine u_callV dX7_bestMove_1 lk_X7_357 [] rfl (m_laysA E l hR hA h hc) (g_recv.obj (ci := 7) rfl (by decide) (show 79 < N by omega)) rfl ⟨⟨by decide, by decide⟩, by decide, by decide⟩ (lb rfl) (fun I2 h_1 => ?_)
  obtain ⟨k1, k2, k3⟩ := h_1
  obtain ⟨t1, t2, t3⟩ := tb_he hA k3
  refine w_aload_n dX7_bestMove_4 rfl ?_
  refine w_aload_n dX7_bestMove_5 rfl ?_
  refine y_callV dX7_bestMove_6 lk_X7_341 [] rfl (m_here E l hR hA.2.2.1 k2.1) (g_recv.obj (ci := 7) rfl (by decide) (show 79 < N by omega)) rfl ⟨⟨by decide, by decide⟩, by decide, by decide⟩ (lb rfl) ?_
  refine y_callV dX7_bestMove_9 lk_X7_301 [.int (nI (hAt A.st))] rfl (m_isWonAt E l hR t1 t2 t3) (g_recv.obj (ci := 7) rfl (by decide) (show 79 < N by omega)) rfl ⟨⟨by decide, by decide⟩, by decide, by decide⟩ (lb rfl) ?_
  rw [hw]
  refine w_istore_n dX7_bestMove_12 (by decide) rfl ?_
  refine w_iconst (v := (-1)) dX7_bestMove_13 (by decide) ?_
  refine w_istore_n dX7_bestMove_14 (by decide) rfl ?_
  refine w_iconst (v := 0) dX7_bestMove_15 (by decide) ?_
  refine w_istore_n dX7_bestMove_16 (by decide) rfl ?_
  refine w_iconst (v := 0) dX7_bestMove_17 (by decide) ?_
  refine w_istore dX7_bestMove_18 (by decide) rfl ?_
  exact w_lv [4, 3, 2, 1, 0] (loop (mvs A.cf A.st.pos).length 0 I2 (by omega) k1.o k2 k3)
set_option maxRecDepth 100000 in
theorem m_best (hR : lkM R N) (hA : aOK A) (h : rM I A c) (hc : c ≤ 1000) : g_Ct E l mX7_best 6 142 0 0 [.ref 79] (I, J, R, D, N, ex) (g_ri (fun y I' => y = o2i (bsF (opv A.cf A.st.pos) (mvs A.cf A.st.pos).length) ∧ qP I A c 0 I') J R D N ex) := by
  refine g_Ct.of (by decide +kernel) (lb rfl) ?_
  have hN := hR.1
  refine w_aload_n dX7_best_0 rfl ?_
  refine w_iconst (v := 0) dX7_best_1 (by decide) ?_
  refine x_puti (ci := 7) (k := 17) dX7_best_2 rfl (by decide) (by decide) (by omega) fl_X7_73 rfl rfl ?_
  refine w_aload_n dX7_best_5 rfl ?_
  refine v_callV dX7_best_6 lk_X7_381 [] rfl (m_bestMove E l hR hA (h.thr 0) hc) (g_recv.obj (ci := 7) rfl (by decide) (show 79 < N by omega)) rfl ⟨⟨by decide, by decide⟩, by decide, by decide⟩ (lb rfl) (fun x_6 I2 h_6 => ?_)
  obtain ⟨k1, k2, k3⟩ := h_6
  refine w_iret dX7_best_9 rfl rfl ⟨_, _, rfl, ⟨k1, qP.of k2 k3⟩, rfl⟩ (by decide) (by decide)
end MS
