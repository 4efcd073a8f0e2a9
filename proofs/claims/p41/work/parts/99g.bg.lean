/-! begins -/
theorem cutI_o {m o : Nat} {I : Nat → Nat → Int32} (h : o < m) : cutI m I o = I o := by funext k; exact if_pos h
theorem cutJ_o {m o : Nat} {J : Nat → Nat → Int64} (h : o < m) : cutJ m J o = J o := by funext k; exact if_pos h
theorem cutR_o {m o : Nat} {R : Nat → Nat → Option Nat} (h : o < m) : cutR m R o = R o := by funext k; exact if_pos h
theorem cutR_n {m o k : Nat} {R : Nat → Nat → Option Nat} (h : m ≤ o) : cutR m R o k = none := if_neg (by omega)
theorem allT_len (E : GE) : (allT E).length ≤ 132 := by
  have hl := ww_l
  have hr := pkV_lt E 0 (n := 3) (by decide)
  have hh := pkV_lt E 1 (n := 4) (by decide)
  have hru : nRu E = 1 + pkV E 0 3 := rfl
  have hhe : nHe E = pkV E 1 4 := rfl
  have len1 := ruT_len E (nRu E)
  have len2 := hpT_len E (nRu E) (nHe E)
  have len3 : (shT E).length ≤ 13 := by
    unfold shT
    have h1 := (dgl_l (1 + pkV E 3 3)).2
    have h2 := (dgl_l (4 + pkV E 4 3)).2
    split
    · simp only [amsT, List.length_append, List.length_cons, List.length_nil]; omega
    · exact Nat.zero_le _
  have len4 : (paT E).length ≤ 10 := by
    unfold paT
    have h1 := (dgl_l (pkV E 6 4)).2
    split
    · simp only [List.length_append, List.length_cons, List.length_nil]; omega
    · exact Nat.zero_le _
  have len5 : (miT E).length ≤ 7 := by
    unfold miT
    split
    · simp only [List.length_append, List.length_cons, List.length_nil]; omega
    · exact Nat.zero_le _
  unfold allT
  simp only [List.length_append]
  omega
theorem swR_bd {R : Nat → Nat → Option Nat} {m : Nat} (sw : Bool) (hm : 79 ≤ m) (h : g_bd m R) : g_bd m (swR R sw) := by
  intro o k c ho hc
  have h1 := gm_b sw
  have h2 := dg_b sw
  unfold swR at hc
  by_cases e1 : o = 23 ∧ k = 6
  · obtain ⟨rfl, rfl⟩ := e1
    rw [up2_s] at hc
    cases hc
    omega
  · rw [up2_n _ _ e1] at hc
    by_cases e2 : o = 0 ∧ k = 0
    · obtain ⟨rfl, rfl⟩ := e2
      rw [up2_s] at hc
      cases hc
      omega
    · rw [up2_n _ _ e2] at hc
      exact h o k c ho hc
theorem okv_all {m m' : Nat} {ls : List (Nat × Value)} (hm : m ≤ m') (h : ls.all (fun q => g_okv m q.2) = true) : ls.all (fun q => g_okv m' q.2) = true := by
  refine List.all_eq_true.mpr (fun q hq => ?_)
  have h1 := List.all_eq_true.mp h q hq
  revert h1
  cases q.2 with
  | ref a =>
    intro h1
    have h2 : a < m ∨ 1000 ≤ a := of_decide_eq_true h1
    exact decide_eq_true (h2.imp (fun h => Nat.lt_of_lt_of_le h hm) id)
  | _ => exact fun _ => rfl
/-- a begun game: it stands, with rules and at most three heaps -/
def bgZ (sw : Bool) (n : Nat) : GZ := fun o w => ∃ I' J' R' D' A', o = .inr (some (.int 1)) ∧ w = (I', J', R', D', 79, false) ∧ lk R' 79 (!sw) ∧ g_bd 79 R' ∧ rC I' J' (!sw) A' (n + 1) ∧ 1 ≤ A'.nr ∧ A'.nr ≤ 3 ∧ A'.st.hs.length ≤ 3
section BG
variable (E : GE) (l : Launch)
variable {I : Nat → Nat → Int32} {J : Nat → Nat → Int64} {R : Nat → Nat → Option Nat} {D : Nat → Nat → UInt64} {sw ex : Bool} {A : AS} {n : Nat}
set_option maxRecDepth 100000 in
set_option maxHeartbeats 1000000 in
theorem c_L_begins (hL : E.2.2.2.2.1 ≤ 260) (hl : lk R 79 sw) (hb : g_bd 79 R) (h : rC I J sw A n) (htl : A.tl = 0) (hn : n < 99000) : g_Ct E l mL_begins 10 215 100 11000 [.ref 0, .ref 1000] (I, J, R, D, 79, ex) (bgZ sw n) := by
  have eA : A.txt A.tx 0 = A := by
    obtain ⟨a, b, c, d, e, f, g⟩ := A
    have e0 : g = 0 := htl
    subst e0
    rfl
  have hr3 := pkV_lt E 0 (n := 3) (by decide)
  refine g_Ct.of (by decide +kernel) (lb rfl) ?_
  refine w_mv 79 80 (Nat.le_refl _) (by decide) (by decide) (fun o h1 h2 => ?_) hb rfl rfl (fun h9 => ?_)
  · obtain rfl : o = 79 := by omega
    decide +kernel
  have hv1 : g_lvs (g_mv E h9 79 80) := fun o h1 h2 => mv_new (by omega) (by omega)
  refine bg_text (g_mv E h9 79 80) l hv1 hL (cut_zf (by decide)) (fun I1 R1 k1 hS1 f1 => ?_)
  have hk1 : k1 < 4 := hS1.1.1
  have hR0 : ∀ o, o ≠ 80 → R1 o = cutR 79 R o := fun o ho => by
    rw [f1.2.1 o ho]
    funext b
    exact up2_n _ _ (by omega)
  have hR1 : ∀ o, o < 79 → R1 o = R o := fun o ho => (hR0 o (by omega)).trans (cutR_o ho)
  have hb1 : g_bd (82 + k1) R1 := by
    intro o b c ho hc
    rcases Nat.lt_or_ge o 79 with q | q
    · rw [hR1 o q] at hc
      have := hb o b c q hc
      omega
    · by_cases q2 : o = 80
      · subst q2
        by_cases q3 : b = 0
        · subst q3
          rw [hS1.1.2.1] at hc
          cases hc
          omega
        · rw [f1.2.2 b q3, up2_n _ _ (by omega), cutR_n (by decide)] at hc
          cases hc
      · rw [hR0 o q2, cutR_n q] at hc
        cases hc
  refine w_mv (82 + k1) 85 (Nat.le_refl _) (by omega) (by decide) (fun o h1 h2 => ?_) hb1 ?_ rfl (fun h8 => ?_)
  · rcases (show o = 82 ∨ o = 83 ∨ o = 84 by omega) with rfl | rfl | rfl <;> decide +kernel
  · exact okv_all (m := 81) (by omega) rfl
  have hl2 : lk (cutR (82 + k1) R1) 79 sw := hl.cg (fun o ho => (cutR_o (by omega)).trans (hR1 o ho))
  have hb2 : g_bd (82 + k1) (cutR (82 + k1) R1) := fun o b c ho hc => by rw [cutR_o ho] at hc; exact hb1 o b c ho hc
  have hb3 : g_bd 79 (cutR (82 + k1) R1) := fun o b c ho hc => by rw [cutR_o (by omega), hR1 o ho] at hc; exact hb o b c ho hc
  have h2 : rC (cutI (82 + k1) I1) (cutJ (82 + k1) (cutJ 79 J)) sw (A.txt A.tx 0) n := by
    rw [eA]
    refine h.fl (fun o ho => ?_) (fun o ho => ?_)
    · rw [cutI_o (by omega), f1.1 o (by omega)]
      have e : up2 (cutI 79 I) 80 1 0 o = cutI 79 I o := by funext b; exact up2_n _ _ (by omega)
      rw [e, cutI_o ho]
    · rw [cutJ_o (by omega), cutJ_o ho]
  refine bg_app (T := allT (g_mv E h9 79 80)) (A := A) (n := n) (sw := sw) _ l ((mv_lv (by omega)).mpr (hv1 _ (by omega) (by omega))) (fun j hj => mv_new (by omega) (by omega)) (hS1.1.fr (fun o a b => cutI_o b) (cutR_o (by omega))) hl2 h2 (cut_zf (by omega)) (allT_len _) (fun I3 j tx hj h3 hle htx => ?_)
  obtain ⟨P, p1, p2, p3⟩ := all_read (tx := tx) (g_mv E h9 79 80) (fun i hi => by rw [htx i (by omega), if_pos hi])
  have hl3 : lk (cutR (82 + k1) R1) (85 + j) sw := hl2.mono (by omega)
  refine w_aload_n dL_begins_321 rfl ?_
  refine w_iload dL_begins_322 rfl ?_
  refine w_callV dL_begins_324 lk_L_73 (c_parse_t _ l hl3 h3 hle p1) (g_recv.obj (ci := 6) rfl (by decide) (show 0 < 85 + j by omega)) rfl rfl ⟨⟨by decide, by decide⟩, by decide, by decide⟩ (lb rfl) (fun v w9 hq => ?_) (fun X w9 hq => by obtain ⟨_, _, _, hq1, _⟩ := hq; cases hq1)
  obtain ⟨I4, J4, ru4, hq1, hq2, f4, fJ4, hpr, h4⟩ := hq
  cases hq1
  subst hq2
  refine w_iload_n dL_begins_327 rfl ?_
  refine w_icmp_ne (tgt := 345) dL_begins_328 (by decide) (fun c_328 => absurd ((congrArg nI p2)) c_328) (fun c_328 => ?_)
  refine w_aload_n dL_begins_331 rfl ?_
  refine w_iconst (v := 1) dL_begins_332 (by decide) ?_
  refine v_callV dL_begins_333 lk_L_77 [.int (nI 1)] rfl (c_size _ l (hl2.sw.mono (show 79 ≤ 85 + j by omega)) h4 (by omega) (w := 1) (by decide)) (g_recv.obj (ci := 6) rfl (by decide) (show 0 < 85 + j by omega)) rfl ⟨⟨by decide, by decide⟩, by decide, by decide⟩ (lb rfl) (fun x_333 I' h_333 => ?_)
  obtain ⟨hx, f5, s5⟩ := h_333
  subst hx
  refine w_iload dL_begins_336 rfl ?_
  refine w_icmp_ne (tgt := 345) dL_begins_338 (by decide) (fun c_338 => absurd ((show nI P.hs.length = nI (nHe (g_mv E h9 79 80)) by rw [p3])) c_338) (fun c_338 => ?_)
  refine w_iconst (v := 1) dL_begins_341 (by decide) ?_
  refine w_goto (tgt := 346) dL_begins_342 (by decide) ?_
  refine w_lv [] ?_
  refine w_bk (m := 82 + k1) (by omega) (swR_bd sw (by omega) hb2) rfl rfl ?_
  refine w_bk (m := 79) (by omega) (swR_bd sw (by decide) hb3) rfl rfl ?_
  refine w_iret dL_begins_346 rfl (by rfl) ⟨_, _, _, _, _, rfl, rfl, hl2.sw, swR_bd sw (by decide) hb3, h4.sv f5 s5, ?_, ?_, ?_⟩ (by decide) (by decide)
  · show 1 ≤ P.ru.length; rw [p2]; exact Nat.le_add_right 1 _
  · show P.ru.length ≤ 3; rw [p2]; show 1 + pkV E 0 3 ≤ 3; omega
  · show P.hs.length ≤ 3; rw [p3]; have := pkV_lt (g_mv E h9 79 80) 1 (n := 4) (by decide); show pkV (g_mv E h9 79 80) 1 4 ≤ 3; omega
end BG
