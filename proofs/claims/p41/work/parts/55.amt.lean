/-! ROWS: calls whose post is a relation over ints and longs; readAmounts -/
def g_rj (P : Int32 → (Nat → Nat → Int32) → (Nat → Nat → Int64) → Prop) (R : Nat → Nat → Option Nat) (D : Nat → Nat → UInt64) (N : Nat) (ex : Bool) : GZ := fun o w => ∃ x I J, o = .inr (some (.int x)) ∧ P x I J ∧ w = (I, J, R, D, N, ex)
section GT6
variable {E : GE} {l : Launch} {μ : GM} {Rm : Room} {Φ : List Frame → Array Value → State → State → Prop} {uc us pc : Nat} {ls : List (Nat × Value)} {st rest : List Value} {Z : GZ} {mc ms : Nat}
variable {R : Nat → Nat → Option Nat} {D : Nat → Nat → UInt64} {n : Nat} {ex : Bool}
variable {idx m f2 q2 mc2 ms2 : Nat} {μ2 : GM} {as : List Value} {w w2 : GW} {r : Option Value} {X : String}
theorem j_callS {P : Int32 → (Nat → Nat → Int32) → (Nat → Nat → Int64) → Prop} (hd : decode μ.2.1 pc = .ok (.invokestatic idx, 3)) (hk : g_lkS μ.1.cls idx m μ2) (as : List Value) (hst : st = as.reverse ++ rest) (hC : g_Ct E l μ2 f2 q2 mc2 ms2 as w (g_rj P R D n ex)) (hn : as.length = m) (hR8 : (f2 + 1 ≤ Rm.frames ∧ 8 + (μ2.2.2.1 + 11) + q2 ≤ Rm.locals) ∧ uc + mc2 ≤ Rm.cells ∧ us + ms2 ≤ Rm.slots) (hr8 : (rest.map fun v => v.category).sum ≤ 8)
    (kr : ∀ x I' J', P x I' J' → g_Wp E l μ Rm Φ (uc + mc2) (us + ms2) (pc + 3) ls (.int x :: rest) (I', J', R, D, n, ex)) : g_Wp E l μ Rm Φ uc us pc ls st w :=
  w_callS hd hk hC hst hn hR8 hr8 (fun v w' h => by obtain ⟨x, I', J', h1, h2, h3⟩ := h; cases h1; subst h3; exact kr x I' J' h2) (fun X w' h => by obtain ⟨x, I', J', h1, h2, h3⟩ := h; cases h1)
theorem j_callV {P : Int32 → (Nat → Nat → Int32) → (Nat → Nat → Int64) → Prop} {o : Nat} (hd : decode μ.2.1 pc = .ok (.invokevirtual idx, 3)) (hk : g_lkV μ.1.cls idx m μ2) (As : List Value) (hst : st = As.reverse ++ .ref o :: rest) (hC : g_Ct E l μ2 f2 q2 mc2 ms2 (.ref o :: As) w (g_rj P R D n ex)) (hrv : g_recv E l w o μ2.1.cls) (hn : As.length = m) (hR8 : (f2 + 1 ≤ Rm.frames ∧ 8 + (μ2.2.2.1 + 11) + q2 ≤ Rm.locals) ∧ uc + mc2 ≤ Rm.cells ∧ us + ms2 ≤ Rm.slots) (hr8 : (rest.map fun v => v.category).sum ≤ 8)
    (kr : ∀ x I' J', P x I' J' → g_Wp E l μ Rm Φ (uc + mc2) (us + ms2) (pc + 3) ls (.int x :: rest) (I', J', R, D, n, ex)) : g_Wp E l μ Rm Φ uc us pc ls st w :=
  w_callV hd hk hC hrv hst hn hR8 hr8 (fun v w' h => by obtain ⟨x, I', J', h1, h2, h3⟩ := h; cases h1; subst h3; exact kr x I' J' h2) (fun X w' h => by obtain ⟨x, I', J', h1, h2, h3⟩ := h; cases h1)
theorem j_callI {P : Int32 → (Nat → Nat → Int32) → (Nat → Nat → Int64) → Prop} {o : Nat} (hd : decode μ.2.1 pc = .ok (.invokespecial idx, 3)) (hk : g_lkI μ.1.cls idx m μ2) (As : List Value) (hst : st = As.reverse ++ .ref o :: rest) (hC : g_Ct E l μ2 f2 q2 mc2 ms2 (.ref o :: As) w (g_rj P R D n ex)) (hn : As.length = m) (hR8 : (f2 + 1 ≤ Rm.frames ∧ 8 + (μ2.2.2.1 + 11) + q2 ≤ Rm.locals) ∧ uc + mc2 ≤ Rm.cells ∧ us + ms2 ≤ Rm.slots) (hr8 : (rest.map fun v => v.category).sum ≤ 8)
    (kr : ∀ x I' J', P x I' J' → g_Wp E l μ Rm Φ (uc + mc2) (us + ms2) (pc + 3) ls (.int x :: rest) (I', J', R, D, n, ex)) : g_Wp E l μ Rm Φ uc us pc ls st w :=
  w_callI hd hk hC hst hn hR8 hr8 (fun v w' h => by obtain ⟨x, I', J', h1, h2, h3⟩ := h; cases h1; subst h3; exact kr x I' J' h2) (fun X w' h => by obtain ⟨x, I', J', h1, h2, h3⟩ := h; cases h1)
end GT6
def nmT (tx : Nat → Nat) (L a : Nat) : Nat := nmF tx (tkS tx L a) (tkN tx L a)
/-- amounts read from the token behind a on: where and how it fails, or the amounts and the end of the token before the one that stands then -/
def amR (tx : Nat → Nat) (L most : Nat) : Nat → Nat → List Nat → (Nat × Nat) ⊕ (List Nat × Nat)
  | 0, a, acc => .inr (acc, a)
  | f + 1, a, acc => if 0 < acc.length ∧ tkK tx L a ≠ 2 then .inr (acc, a) else if isNu tx L a = false then .inl (tkS tx L a, 1) else if nmT tx L a < 1 ∨ most < nmT tx L a then .inl (tkS tx L a, 3) else if nmT tx L a ∈ acc then .inl (tkS tx L a, 2) else if acc.length = 8 then .inl (tkS tx L a, 5) else amR tx L most f (tkE tx L a) (acc ++ [nmT tx L a])
def frR (I I' : Nat → Nat → Int32) : Prop := (∀ o, o ≠ 23 → I' o = I o) ∧ ∀ k, k ≠ 3 → k ≠ 4 → k ≠ 5 → k ≠ 9 → I' 23 k = I 23 k
def frJ (J J' : Nat → Nat → Int64) : Prop := ∀ o k, ¬ (o = 23 ∧ k = 8) → J' o k = J o k
theorem frR.refl (I : Nat → Nat → Int32) : frR I I := ⟨fun _ _ => rfl, fun _ _ _ _ _ => rfl⟩
theorem frR.trans {I I' I'' : Nat → Nat → Int32} (h : frR I I') (h' : frR I' I'') : frR I I'' := ⟨fun o a => (h'.1 o a).trans (h.1 o a), fun k a b c d => (h'.2 k a b c d).trans (h.2 k a b c d)⟩
theorem frK.r {I I' : Nat → Nat → Int32} (h : frK I I') : frR I I' := ⟨h.1, fun k a b c _ => h.2 k a b c⟩
theorem frR.fail {I I' : Nat → Nat → Int32} (h : frR I I') (v : Int32) : frR I (up2 I' 23 9 v) := ⟨fun o a => by rw [← h.1 o a]; funext j; simp [up2, a], fun k a b c d => by rw [← h.2 k a b c d]; simp [up2, d]⟩
theorem rdC.r {I I' : Nat → Nat → Int32} {tx : Nat → Nat} {L : Nat} (h : rdC I tx L) (f : frR I I') : rdC I' tx L := ⟨by rw [f.2 2 (by decide) (by decide) (by decide) (by decide)]; exact h.1, h.2.1, fun i hi => by rw [f.1 24 (by decide)]; exact h.2.2 i hi⟩
def seC (J : Nat → Nat → Int64) (acc : List Nat) : Prop := ∀ v, v < 64 → lbit (J 23 8) v = decide (v ∈ acc)
/-- what readAmounts comes to -/
def amP (tx : Nat → Nat) (L : Nat) (I : Nat → Nat → Int32) (J : Nat → Nat → Int64) (x : Int32) (I' : Nat → Nat → Int32) (J' : Nat → Nat → Int64) (r : (Nat × Nat) ⊕ (List Nat × Nat)) : Prop := frR I I' ∧ frJ J J' ∧ match r with
  | .inl q => x = 0 ∧ I' 23 9 = flS q.1 q.2
  | .inr q => x = 1 ∧ tkC I' tx L q.2 ∧ q.2 ≤ L ∧ seC J' q.1
section AM
variable (E : GE) (l : Launch)
variable {I : Nat → Nat → Int32} {J : Nat → Nat → Int64} {R : Nat → Nat → Option Nat} {D : Nat → Nat → UInt64} {N : Nat} {ex : Bool} {tx : Nat → Nat} {L a : Nat}
theorem nmT_lt {tx : Nat → Nat} {L a : Nat} (hu : isNu tx L a = true) : nmT tx L a < 100 := by
  have hu2 := of_decide_eq_true hu
  have hdg : ∀ j, j < tkN tx L a → 48 ≤ tx (tkS tx L a + j) ∧ tx (tkS tx L a + j) ≤ 57 := fun j hj => (kb_2 ((tk_k (Or.inr hu2.1) (Nat.le_add_right _ _) (by unfold tkN at hj; omega)).trans hu2.1)).2
  have hlt : ∀ j, j ≤ tkN tx L a → nmF tx (tkS tx L a) j < 10 ^ j := by
    intro j
    induction j with
    | zero => intro _; show 0 < 1; omega
    | succ j ih =>
      intro hj
      rw [nmF, Nat.pow_succ]
      have := ih (by omega)
      have := hdg j (by omega)
      omega
  have h1 := hlt _ (Nat.le_refl _)
  have hp : (10 : Nat) ^ tkN tx L a ≤ 10 ^ 2 := Nat.pow_le_pow_right (by decide) hu2.2
  unfold nmT
  omega
set_option maxRecDepth 100000 in
theorem c_readAmounts (hR : R 23 0 = some 24) (hN : 24 < N) (hr : rdC I tx L) (ht : tkC I tx L a) (ha : a ≤ L) {most : Nat} (hm : most < 64) : g_Ct E l mX5_readAmounts 2 43 0 0 [.ref 23, .int (nI most)] (I, J, R, D, N, ex) (g_rj (fun x I' J' => amP tx L I J x I' J' (amR tx L most 9 a [])) R D N ex) := by
  refine g_Ct.of (by decide +kernel) (lb rfl) ?_
  have hL := hr.2.1
  generalize hQ : amR tx L most 9 a [] = Q
  have loop : ∀ (f a : Nat) (acc : List Nat) (I' : Nat → Nat → Int32) (J' : Nat → Nat → Int64), acc.length + f = 9 → amR tx L most f a acc = Q → a ≤ L → frR I I' → frJ J J' → tkC I' tx L a → seC J' acc → g_Wp E l mX5_readAmounts { frames := 2, cells := 0, slots := 0, locals := 43 } (g_Fin E (g_rj (fun x I' J' => amP tx L I J x I' J' Q) R D N ex) 0 0) 0 0 7 [(2, .int (nI acc.length)), (0, .ref 23), (1, .int (nI most))] [] (I', J', R, D, N, ex) := by
    intro f
    induction f with
    | zero =>
      intro a acc I' J' hf hq ha f1 f2 h1 h2
      rw [show acc.length = 9 by omega]
      refine w_iload_n dX5_readAmounts_7 rfl ?_
      refine w_bipush (v := 8) dX5_readAmounts_8 (by decide) ?_
      refine w_icmp_gt (tgt := 114) dX5_readAmounts_10 (by decide) (fun c_10 => ?_) (fun c_10 => absurd ((by decide)) c_10)
      refine w_iconst (v := 1) dX5_readAmounts_114 (by decide) ?_
      refine w_iret dX5_readAmounts_115 rfl rfl ⟨_, _, _, rfl, (by rw [← hq]; exact ⟨f1, f2, rfl, h1, ha, h2⟩), rfl⟩ (by decide) (by decide)
    | succ f ih =>
      intro a acc I' J' hf hq ha f1 f2 h1 h2
      rw [amR] at hq
      have hb := tk_b (tx := tx) ha
      have hk4 : tkK tx L a ≤ 4 := kb_le _ _ _
      have failz : ∀ k, Q = .inl (tkS tx L a, k) → amP tx L I J (b2i false) (up2 I' 23 9 (flS (tkS tx L a) k)) J' Q := fun k hk => by rw [hk]; exact ⟨f1.fail _, f2, rfl, up2_s ..⟩
      by_cases hstop : 0 < acc.length ∧ tkK tx L a ≠ 2
      · rw [if_pos hstop] at hq
        refine w_iload_n dX5_readAmounts_7 rfl ?_
        refine w_bipush (v := 8) dX5_readAmounts_8 (by decide) ?_
        refine w_icmp_gt (tgt := 114) dX5_readAmounts_10 (by decide) (fun c_10 => absurd c_10 ((nI_nlt (a := 8) (by omega) (by omega)))) (fun c_10 => ?_)
        refine w_iload_n dX5_readAmounts_13 rfl ?_
        refine w_if_le (tgt := 27) dX5_readAmounts_14 (by decide) (fun c_14 => absurd c_14 ((fun q => absurd (n_le (b := 0) q) (by omega)))) (fun c_14 => ?_)
        refine w_aload_n dX5_readAmounts_17 rfl ?_
        refine x_geti (ci := 5) (k := 5) dX5_readAmounts_18 rfl (by decide) (by decide) (by omega) fl_X5_48 rfl ?_
        rw [h1.2.2]
        refine w_iconst (v := 2) dX5_readAmounts_21 (by decide) ?_
        refine w_icmp_eq (tgt := 27) dX5_readAmounts_22 (by decide) (fun c_22 => absurd c_22 ((fun q => hstop.2 (n_eq (b := 2) q)))) (fun c_22 => ?_)
        refine w_iconst (v := 1) dX5_readAmounts_25 (by decide) ?_
        refine w_iret dX5_readAmounts_26 rfl rfl ⟨_, _, _, rfl, (by rw [← hq]; exact ⟨f1, f2, rfl, h1, ha, h2⟩), rfl⟩ (by decide) (by decide)
      · rw [if_neg hstop] at hq
        have go27 : g_Wp E l mX5_readAmounts { frames := 2, cells := 0, slots := 0, locals := 43 } (g_Fin E (g_rj (fun x I' J' => amP tx L I J x I' J' Q) R D N ex) 0 0) 0 0 27 [(2, .int (nI acc.length)), (0, .ref 23), (1, .int (nI most))] [] (I', J', R, D, N, ex) := by
          cases hu : isNu tx L a with
          | false =>
            rw [if_pos hu] at hq
            refine w_aload_n dX5_readAmounts_27 rfl ?_
            refine y_callV dX5_readAmounts_28 lk_X5_126 [] rfl (c_isNumber E l hN h1 ha hL) (g_recv.obj (ci := 5) rfl (by decide) (show 23 < N by omega)) rfl ⟨⟨by decide, by decide⟩, by decide, by decide⟩ (lb rfl) ?_
            rw [hu]
            refine w_if_ne (tgt := 40) dX5_readAmounts_31 (by decide) (fun c_31 => absurd (rfl) c_31) (fun c_31 => ?_)
            refine w_aload_n dX5_readAmounts_34 rfl ?_
            refine w_iconst (v := 1) dX5_readAmounts_35 (by decide) ?_
            refine y_callV dX5_readAmounts_36 lk_X5_55 [.int (nI 1)] rfl (c_fail E l hN h1 1) (g_recv.obj (ci := 5) rfl (by decide) (show 23 < N by omega)) rfl ⟨⟨by decide, by decide⟩, by decide, by decide⟩ (lb rfl) ?_
            refine w_iret dX5_readAmounts_39 rfl rfl ⟨_, _, _, rfl, failz 1 hq.symm, rfl⟩ (by decide) (by decide)
          | true =>
            rw [if_neg (by rw [hu]; decide)] at hq
            have hv := nmT_lt hu
            refine w_aload_n dX5_readAmounts_27 rfl ?_
            refine y_callV dX5_readAmounts_28 lk_X5_126 [] rfl (c_isNumber E l hN h1 ha hL) (g_recv.obj (ci := 5) rfl (by decide) (show 23 < N by omega)) rfl ⟨⟨by decide, by decide⟩, by decide, by decide⟩ (lb rfl) ?_
            rw [hu]
            refine w_if_ne (tgt := 40) dX5_readAmounts_31 (by decide) (fun c_31 => ?_) (fun c_31 => absurd c_31 ((by decide)))
            refine w_aload_n dX5_readAmounts_40 rfl ?_
            refine y_callV dX5_readAmounts_41 lk_X5_129 [] rfl (c_numberOfToken E l hR hN (hr.r f1) h1 ha hu) (g_recv.obj (ci := 5) rfl (by decide) (show 23 < N by omega)) rfl ⟨⟨by decide, by decide⟩, by decide, by decide⟩ (lb rfl) ?_
            refine w_st (show _ = [.int (nI (nmT tx L a))] from rfl) ?_
            refine w_istore_n dX5_readAmounts_44 (by decide) rfl ?_
            refine w_iload_n dX5_readAmounts_45 rfl ?_
            refine w_iconst (v := 1) dX5_readAmounts_46 (by decide) ?_
            refine w_icmp_lt (tgt := 55) dX5_readAmounts_47 (by decide) (fun c_47 => ?_) (fun c_47 => ?_)
            · refine w_aload_n dX5_readAmounts_55 rfl ?_
              refine w_iconst (v := 3) dX5_readAmounts_56 (by decide) ?_
              refine y_callV dX5_readAmounts_57 lk_X5_55 [.int (nI 3)] rfl (c_fail E l hN h1 3) (g_recv.obj (ci := 5) rfl (by decide) (show 23 < N by omega)) rfl ⟨⟨by decide, by decide⟩, by decide, by decide⟩ (lb rfl) ?_
              refine w_iret dX5_readAmounts_60 rfl rfl ⟨_, _, _, rfl, failz 3 (by rw [← hq, if_pos (by first | exact Or.inl (n_lt (b := 1) c_47) | exact Or.inr (n_nle c_52))]), rfl⟩ (by decide) (by decide)
            · refine w_iload_n dX5_readAmounts_50 rfl ?_
              refine w_iload_n dX5_readAmounts_51 rfl ?_
              refine w_icmp_le (tgt := 61) dX5_readAmounts_52 (by decide) (fun c_52 => ?_) (fun c_52 => ?_)
              · refine w_aload_n dX5_readAmounts_61 rfl ?_
                have hin : ¬ (nmT tx L a < 1 ∨ most < nmT tx L a) := (fun q => by rcases q with q | q; exact c_47 (nI_lt (b := 1) (by omega) (by omega)); exact absurd (n_le c_52) (by omega))
                rw [if_neg hin] at hq
                refine x_getj (ci := 5) (k := 8) dX5_readAmounts_62 rfl (by decide) (by decide) (by omega) fl_X5_106 rfl ?_
                refine w_iload_n dX5_readAmounts_65 rfl ?_
                refine w_lshr dX5_readAmounts_66 ?_
                refine w_lconst (v := 1) dX5_readAmounts_67 (by decide) ?_
                refine w_land dX5_readAmounts_68 ?_
                refine w_lconst (v := 0) dX5_readAmounts_69 (by decide) ?_
                refine w_lcmp dX5_readAmounts_70 ?_
                refine w_if_eq (tgt := 80) dX5_readAmounts_71 (by decide) (fun c_71 => ?_) (fun c_71 => ?_)
                · have hni : nmT tx L a ∉ acc := (by have e := lg_b0 (by omega) c_71; rw [h2 _ (by omega)] at e; exact of_decide_eq_false e)
                  rw [if_neg hni] at hq
                  refine w_iload_n dX5_readAmounts_80 rfl ?_
                  refine w_bipush (v := 8) dX5_readAmounts_81 (by decide) ?_
                  refine w_icmp_ne (tgt := 92) dX5_readAmounts_83 (by decide) (fun c_83 => ?_) (fun c_83 => ?_)
                  · refine w_aload_n dX5_readAmounts_92 rfl ?_
                    refine w_dup dX5_readAmounts_93 rfl ?_
                    refine x_getj (ci := 5) (k := 8) dX5_readAmounts_94 rfl (by decide) (by decide) (by omega) fl_X5_106 rfl ?_
                    refine w_lconst (v := 1) dX5_readAmounts_97 (by decide) ?_
                    refine w_iload_n dX5_readAmounts_98 rfl ?_
                    refine w_lshl dX5_readAmounts_99 ?_
                    refine w_lor dX5_readAmounts_100 ?_
                    refine x_putj (ci := 5) (k := 8) dX5_readAmounts_101 rfl (by decide) (by decide) (by omega) fl_X5_106 rfl rfl ?_
                    refine w_aload_n dX5_readAmounts_104 rfl ?_
                    refine u_callV dX5_readAmounts_105 lk_X5_45 [] rfl (c_nextToken E l hR hN (hr.r f1) (a := tkE tx L a) hb.2.2.2.1 h1.2.1) (g_recv.obj (ci := 5) rfl (by decide) (show 23 < N by omega)) rfl ⟨⟨by decide, by decide⟩, by decide, by decide⟩ (lb rfl) (fun I2 h_105 => ?_)
                    obtain ⟨g1, g2⟩ := h_105
                    refine w_iinc (v := nI (acc.length + 1)) dX5_readAmounts_108 rfl (nI_inc _) (by decide) rfl ?_
                    refine w_goto (tgt := 7) dX5_readAmounts_111 (by decide) ?_
                    rw [if_neg (fun q => c_83 (by rw [q]; rfl))] at hq
                    have t := ih (tkE tx L a) (acc ++ [nmT tx L a]) I2 (up2 J' 23 8 (J' 23 8 ||| (1 : Int64) <<< ((nI (nmT tx L a)).toInt64 &&& 63))) (by rw [List.length_append, List.length_singleton]; omega) hq hb.2.2.2.1 (f1.trans g1.r) (fun o k h => by rw [up2_n _ _ h]; exact f2 o k h) g2 (fun v hv => by rw [up2_s, lbit_or (by omega) hv, h2 v hv]; simp [eq_comm])
                    rw [List.length_append, List.length_singleton] at t
                    exact w_lv [2, 0, 1] t
                  · refine w_aload_n dX5_readAmounts_86 rfl ?_
                    refine w_iconst (v := 5) dX5_readAmounts_87 (by decide) ?_
                    refine y_callV dX5_readAmounts_88 lk_X5_55 [.int (nI 5)] rfl (c_fail E l hN h1 5) (g_recv.obj (ci := 5) rfl (by decide) (show 23 < N by omega)) rfl ⟨⟨by decide, by decide⟩, by decide, by decide⟩ (lb rfl) ?_
                    refine w_iret dX5_readAmounts_91 rfl rfl ⟨_, _, _, rfl, failz 5 (by rw [← hq, if_pos (n_eq (b := 8) c_83)]), rfl⟩ (by decide) (by decide)
                · refine w_aload_n dX5_readAmounts_74 rfl ?_
                  refine w_iconst (v := 2) dX5_readAmounts_75 (by decide) ?_
                  refine y_callV dX5_readAmounts_76 lk_X5_55 [.int (nI 2)] rfl (c_fail E l hN h1 2) (g_recv.obj (ci := 5) rfl (by decide) (show 23 < N by omega)) rfl ⟨⟨by decide, by decide⟩, by decide, by decide⟩ (lb rfl) ?_
                  refine w_iret dX5_readAmounts_79 rfl rfl ⟨_, _, _, rfl, failz 2 (by have e := lg_b1 (by omega) c_71; rw [h2 _ (by omega)] at e; rw [← hq, if_pos (of_decide_eq_true e)]), rfl⟩ (by decide) (by decide)
              · refine w_aload_n dX5_readAmounts_55 rfl ?_
                refine w_iconst (v := 3) dX5_readAmounts_56 (by decide) ?_
                refine y_callV dX5_readAmounts_57 lk_X5_55 [.int (nI 3)] rfl (c_fail E l hN h1 3) (g_recv.obj (ci := 5) rfl (by decide) (show 23 < N by omega)) rfl ⟨⟨by decide, by decide⟩, by decide, by decide⟩ (lb rfl) ?_
                refine w_iret dX5_readAmounts_60 rfl rfl ⟨_, _, _, rfl, failz 3 (by rw [← hq, if_pos (by first | exact Or.inl (n_lt (b := 1) c_47) | exact Or.inr (n_nle c_52))]), rfl⟩ (by decide) (by decide)
        by_cases h0 : acc.length = 0
        · rw [h0] at go27 ⊢
          refine w_iload_n dX5_readAmounts_7 rfl ?_
          refine w_bipush (v := 8) dX5_readAmounts_8 (by decide) ?_
          refine w_icmp_gt (tgt := 114) dX5_readAmounts_10 (by decide) (fun c_10 => absurd c_10 ((by decide))) (fun c_10 => ?_)
          refine w_iload_n dX5_readAmounts_13 rfl ?_
          refine w_if_le (tgt := 27) dX5_readAmounts_14 (by decide) (fun c_14 => ?_) (fun c_14 => absurd ((by decide)) c_14)
          exact go27
        · have hk2 : tkK tx L a = 2 := Classical.byContradiction (fun q => hstop ⟨by omega, q⟩)
          refine w_iload_n dX5_readAmounts_7 rfl ?_
          refine w_bipush (v := 8) dX5_readAmounts_8 (by decide) ?_
          refine w_icmp_gt (tgt := 114) dX5_readAmounts_10 (by decide) (fun c_10 => absurd c_10 ((nI_nlt (a := 8) (by omega) (by omega)))) (fun c_10 => ?_)
          refine w_iload_n dX5_readAmounts_13 rfl ?_
          refine w_if_le (tgt := 27) dX5_readAmounts_14 (by decide) (fun c_14 => absurd c_14 ((fun q => absurd (n_le (b := 0) q) (by omega)))) (fun c_14 => ?_)
          refine w_aload_n dX5_readAmounts_17 rfl ?_
          refine x_geti (ci := 5) (k := 5) dX5_readAmounts_18 rfl (by decide) (by decide) (by omega) fl_X5_48 rfl ?_
          rw [h1.2.2, hk2]
          refine w_iconst (v := 2) dX5_readAmounts_21 (by decide) ?_
          refine w_icmp_eq (tgt := 27) dX5_readAmounts_22 (by decide) (fun c_22 => ?_) (fun c_22 => absurd (rfl) c_22)
          exact go27
  refine w_aload_n dX5_readAmounts_0 rfl ?_
  refine w_lconst (v := 0) dX5_readAmounts_1 (by decide) ?_
  refine x_putj (ci := 5) (k := 8) dX5_readAmounts_2 rfl (by decide) (by decide) (by omega) fl_X5_106 rfl rfl ?_
  refine w_iconst (v := 0) dX5_readAmounts_5 (by decide) ?_
  refine w_istore_n dX5_readAmounts_6 (by decide) rfl ?_
  refine w_lv [2, 0, 1] (loop 9 a [] I _ rfl hQ ha (frR.refl I) (fun o k h => up2_n _ _ h) ht (fun v hv => ?_))
  rw [up2_s, lbit_0]
  simp
end AM
