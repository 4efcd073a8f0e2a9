/-! HeapGamesModel: readsAmounts, read -/
def amM (tx : Nat → Nat) (L most : Nat) : Nat → Nat → List Nat → (Nat × Nat) ⊕ (List Nat × Nat)
  | 0, a, acc => .inr (acc, a)
  | f + 1, a, acc => if 0 < acc.length ∧ isNu tx L a = false then .inr (acc, a) else if isNu tx L a = false then .inl (tkS tx L a, 1) else if nmT tx L a < 1 ∨ most < nmT tx L a then .inl (tkS tx L a, 3) else if nmT tx L a ∈ acc then .inl (tkS tx L a, 2) else if acc.length = 8 then .inl (tkS tx L a, 5) else amM tx L most f (tkE tx L a) (acc ++ [nmT tx L a])
def frU (I I' : Nat → Nat → Int32) (J J' : Nat → Nat → Int64) : Prop := (∀ o, o ≠ 79 → o ≠ 97 → I' o = I o) ∧ (∀ k, (k < 24 ∨ 29 < k) → k ≠ 35 → I' 79 k = I 79 k) ∧ ∀ o k, ¬ (o = 79 ∧ k = 33) → J' o k = J o k
theorem frU.refl (I : Nat → Nat → Int32) (J : Nat → Nat → Int64) : frU I I J J := ⟨fun _ _ _ => rfl, fun _ _ _ => rfl, fun _ _ _ => rfl⟩
theorem frU.trans {I I' I'' : Nat → Nat → Int32} {J J' J'' : Nat → Nat → Int64} (h : frU I I' J J') (h' : frU I' I'' J' J'') : frU I I'' J J'' := ⟨fun o a b => (h'.1 o a b).trans (h.1 o a b), fun k a b => (h'.2.1 k a b).trans (h.2.1 k a b), fun o k a => (h'.2.2 o k a).trans (h.2.2 o k a)⟩
theorem frU.up {I I' : Nat → Nat → Int32} {J J' : Nat → Nat → Int64} (h : frU I I' J J') {k : Nat} (hk : (24 ≤ k ∧ k ≤ 29) ∨ k = 35) (v : Int32) : frU I (up2 I' 79 k v) J J' := ⟨fun o a b => by rw [← h.1 o a b]; funext j; exact up2_n _ _ (by simp [a]), fun j a b => by rw [← h.2.1 j a b]; exact up2_n _ _ (by omega), h.2.2⟩
theorem frU.er {I I' : Nat → Nat → Int32} {J J' : Nat → Nat → Int64} (h : frU I I' J J') (k x : Int32) : frU I (up2 (up2 I' 79 28 k) 79 29 x) J J' := (h.up (by decide) _).up (by decide) _
theorem frN.u {I I' : Nat → Nat → Int32} {J J' : Nat → Nat → Int64} (h : frN I I' J J') : frU I I' J J' := ⟨fun o a _ => h.1 o a, fun k a _ => h.2.1 k (by omega), h.2.2⟩
theorem mtx.u {I I' : Nat → Nat → Int32} {J J' : Nat → Nat → Int64} {tx : Nat → Nat} {L : Nat} (h : mtx I tx L) (f : frU I I' J J') : mtx I' tx L := ⟨by rw [f.2.1 23 (by decide) (by decide)]; exact h.1, h.2.1, fun i hi => by rw [f.1 96 (by decide) (by decide)]; exact h.2.2 i hi⟩
def tdC (I : Nat → Nat → Int32) (acc : List Nat) : Prop := I 79 35 = nI acc.length ∧ ∀ j (h : j < acc.length), I 97 j = nI acc[j]
theorem toB_mem {f : Nat → Int32} {v : Nat} (hv : v < 1000) : ∀ {acc : List Nat} {m : Nat}, m ≤ acc.length → (∀ j (h : j < acc.length), f j = nI acc[j]) → (∀ x ∈ acc, x < 1000) → toB f (nI v) m = decide (v ∈ acc.take m)
  | acc, 0, _, _, _ => by rw [List.take_zero]; rfl
  | acc, m + 1, h, hf, hx => by
    have hm : m < acc.length := by omega
    rw [toB, toB_mem hv (by omega) hf hx, hf m hm, List.take_succ_eq_append_getElem hm]
    have h9 := hx _ (List.getElem_mem hm)
    by_cases e : v = acc[m]
    · rw [← e]; simp
    · rw [decide_eq_false (show ¬ nI acc[m] = nI v from fun q => e (n_eq q (by omega) (by omega)).symm), Bool.or_false]
      apply decide_eq_decide.mpr
      rw [List.mem_append, List.mem_singleton]
      constructor
      · intro q; exact Or.inl q
      · intro q; exact q.resolve_right e
section MAa
variable (E : GE) (l : Launch)
variable {I : Nat → Nat → Int32} {J : Nat → Nat → Int64} {R : Nat → Nat → Option Nat} {D : Nat → Nat → UInt64} {N : Nat} {ex : Bool} {tx : Nat → Nat} {L a : Nat}
/-- how readsAmounts ends -/
def amQ (I : Nat → Nat → Int32) (J : Nat → Nat → Int64) (tx : Nat → Nat) (L : Nat) (I' : Nat → Nat → Int32) (J' : Nat → Nat → Int64) (r : (Nat × Nat) ⊕ (List Nat × Nat)) : Prop := frU I I' J J' ∧ match r with
  | .inl q => I' 79 28 = nI q.2 ∧ I' 79 29 = nI q.1 ∧ q.2 ≠ 0 ∧ q.2 ≤ 5
  | .inr q => I' 79 28 = nI 0 ∧ mtC I' J' tx L q.2 ∧ tdC I' q.1
theorem frU.o {I I' : Nat → Nat → Int32} {J J' : Nat → Nat → Int64} (h : frU I I' J J') : ∀ o, o < 79 → I' o = I o := fun o ho => h.1 o (by omega) (by omega)
set_option maxRecDepth 100000 in
theorem m_readsAmounts (hR : lkM R N) (hg : I 79 28 = nI 0) (hr : mtx I tx L) (hm : mtC I J tx L a) (ha : a ≤ L) {most : Nat} (hmo : most < 64) : g_Ct E l mX7_readsAmounts 3 62 0 0 [.ref 79, .int (nI most)] (I, J, R, D, N, ex) (g_rk (fun I' J' => amQ I J tx L I' J' (amM tx L most 9 a [])) R D N ex) := by
  refine g_Ct.of (by decide +kernel) (lb rfl) ?_
  have hN := hR.1
  have hL := hr.2.1
  generalize hQ : amM tx L most 9 a [] = Q
  have b87 : ∀ (x : Int32) (I' : Nat → Nat → Int32) (J' : Nat → Nat → Int64) (e : Nat), I' 79 28 = nI e → e ≠ 0 ∧ e ≤ 5 → amQ I J tx L I' J' Q → g_Wp E l mX7_readsAmounts { frames := 3, cells := 0, slots := 0, locals := 62 } (g_Fin E (g_rk (fun I' J' => amQ I J tx L I' J' Q) R D N ex) 0 0) 0 0 87 [(2, .int x), (0, .ref 79), (1, .int (nI most))] [] (I', J', R, D, N, ex) := by
    intro x I' J' e h1 h2 h3
    refine w_aload_n dX7_readsAmounts_87 rfl ?_
    refine y_callV dX7_readsAmounts_88 lk_X7_161 [] rfl (m_isGood E l hR h1 h2.2) (g_recv.obj (ci := 7) rfl (by decide) (show 79 < N by omega)) rfl ⟨⟨by decide, by decide⟩, by decide, by decide⟩ (lb rfl) ?_
    rw [decide_eq_false h2.1]
    refine w_if_ne (tgt := 95) dX7_readsAmounts_91 (by decide) (fun c_91 => absurd (rfl) c_91) (fun c_91 => ?_)
    refine w_vret dX7_readsAmounts_94 rfl ⟨_, _, rfl, h3, rfl⟩ (by decide) (by decide)
  have b67 : ∀ (x : Int32) (I' : Nat → Nat → Int32) (J' : Nat → Nat → Int64) (e : Nat), I' 79 28 = nI e → e ≠ 0 ∧ e ≤ 5 → amQ I J tx L I' J' Q → g_Wp E l mX7_readsAmounts { frames := 3, cells := 0, slots := 0, locals := 62 } (g_Fin E (g_rk (fun I' J' => amQ I J tx L I' J' Q) R D N ex) 0 0) 0 0 67 [(2, .int x), (0, .ref 79), (1, .int (nI most))] [] (I', J', R, D, N, ex) := by
    intro x I' J' e h1 h2 h3
    refine w_aload_n dX7_readsAmounts_67 rfl ?_
    refine w_aload_n dX7_readsAmounts_68 rfl ?_
    refine x_geti (ci := 7) (k := 35) dX7_readsAmounts_69 rfl (by decide) (by decide) (by omega) fl_X7_180 rfl ?_
    refine w_bipush (v := 8) dX7_readsAmounts_72 (by decide) ?_
    refine w_icmp_ge (tgt := 81) dX7_readsAmounts_74 (by decide) (fun c_74 => ?_) (fun c_74 => ?_)
    · refine w_iconst (v := 0) dX7_readsAmounts_81 (by decide) ?_
      refine w_iconst (v := 5) dX7_readsAmounts_82 (by decide) ?_
      refine y_callV dX7_readsAmounts_83 lk_X7_183 [.int _, .int 5] rfl (m_must_b E l hR h1 h2 _ _) (g_recv.obj (ci := 7) rfl (by decide) (show 79 < N by omega)) rfl ⟨⟨by decide, by decide⟩, by decide, by decide⟩ (lb rfl) ?_
      refine w_pop dX7_readsAmounts_86 rfl ?_
      exact w_lv [2, 0, 1] (b87 x I' J' e h1 h2 h3)
    · refine w_iconst (v := 1) dX7_readsAmounts_77 (by decide) ?_
      refine w_goto (tgt := 82) dX7_readsAmounts_78 (by decide) ?_
      refine w_iconst (v := 5) dX7_readsAmounts_82 (by decide) ?_
      refine y_callV dX7_readsAmounts_83 lk_X7_183 [.int _, .int 5] rfl (m_must_b E l hR h1 h2 _ _) (g_recv.obj (ci := 7) rfl (by decide) (show 79 < N by omega)) rfl ⟨⟨by decide, by decide⟩, by decide, by decide⟩ (lb rfl) ?_
      refine w_pop dX7_readsAmounts_86 rfl ?_
      exact w_lv [2, 0, 1] (b87 x I' J' e h1 h2 h3)
  have b52 : ∀ (x : Int32) (I' : Nat → Nat → Int32) (J' : Nat → Nat → Int64) (e : Nat), I' 79 28 = nI e → e ≠ 0 ∧ e ≤ 5 → amQ I J tx L I' J' Q → g_Wp E l mX7_readsAmounts { frames := 3, cells := 0, slots := 0, locals := 62 } (g_Fin E (g_rk (fun I' J' => amQ I J tx L I' J' Q) R D N ex) 0 0) 0 0 52 [(2, .int x), (0, .ref 79), (1, .int (nI most))] [] (I', J', R, D, N, ex) := by
    intro x I' J' e h1 h2 h3
    refine w_aload_n dX7_readsAmounts_52 rfl ?_
    refine w_aload_n dX7_readsAmounts_53 rfl ?_
    refine x_geti (ci := 7) (k := 27) dX7_readsAmounts_54 rfl (by decide) (by decide) (by omega) fl_X7_146 rfl ?_
    refine w_iconst (v := 1) dX7_readsAmounts_57 (by decide) ?_
    refine w_iload_n dX7_readsAmounts_58 rfl ?_
    refine y_callS dX7_readsAmounts_59 lk_X7_77 [.int (I' 79 27), .int 1, .int (nI most)] rfl (m_within E l _ _ _ _) rfl ⟨⟨by decide, by decide⟩, by decide, by decide⟩ (lb rfl) ?_
    refine w_iconst (v := 3) dX7_readsAmounts_62 (by decide) ?_
    refine y_callV dX7_readsAmounts_63 lk_X7_183 [.int _, .int 3] rfl (m_must_b E l hR h1 h2 _ _) (g_recv.obj (ci := 7) rfl (by decide) (show 79 < N by omega)) rfl ⟨⟨by decide, by decide⟩, by decide, by decide⟩ (lb rfl) ?_
    refine w_pop dX7_readsAmounts_66 rfl ?_
    exact w_lv [2, 0, 1] (b67 x I' J' e h1 h2 h3)
  have b30 : ∀ (x : Int32) (I' : Nat → Nat → Int32) (J' : Nat → Nat → Int64) (e m : Nat), I' 79 28 = nI e → e ≠ 0 ∧ e ≤ 5 → I' 79 35 = nI m → m ≤ 8 → amQ I J tx L I' J' Q → g_Wp E l mX7_readsAmounts { frames := 3, cells := 0, slots := 0, locals := 62 } (g_Fin E (g_rk (fun I' J' => amQ I J tx L I' J' Q) R D N ex) 0 0) 0 0 30 [(2, .int x), (0, .ref 79), (1, .int (nI most))] [] (I', J', R, D, N, ex) := by
    intro x I' J' e m h1 h2 h4 h5 h3
    refine w_aload_n dX7_readsAmounts_30 rfl ?_
    refine w_aload_n dX7_readsAmounts_31 rfl ?_
    refine w_aload_n dX7_readsAmounts_32 rfl ?_
    refine x_geti (ci := 7) (k := 27) dX7_readsAmounts_33 rfl (by decide) (by decide) (by omega) fl_X7_146 rfl ?_
    refine y_callV dX7_readsAmounts_36 lk_X7_187 [.int (I' 79 27)] rfl (m_isTold E l hR h4 h5 _) (g_recv.obj (ci := 7) rfl (by decide) (show 79 < N by omega)) rfl ⟨⟨by decide, by decide⟩, by decide, by decide⟩ (lb rfl) ?_
    refine w_if_ne (tgt := 46) dX7_readsAmounts_39 (by decide) (fun c_39 => ?_) (fun c_39 => ?_)
    · refine w_iconst (v := 0) dX7_readsAmounts_46 (by decide) ?_
      refine w_iconst (v := 2) dX7_readsAmounts_47 (by decide) ?_
      refine y_callV dX7_readsAmounts_48 lk_X7_183 [.int _, .int 2] rfl (m_must_b E l hR h1 h2 _ _) (g_recv.obj (ci := 7) rfl (by decide) (show 79 < N by omega)) rfl ⟨⟨by decide, by decide⟩, by decide, by decide⟩ (lb rfl) ?_
      refine w_pop dX7_readsAmounts_51 rfl ?_
      exact w_lv [2, 0, 1] (b52 x I' J' e h1 h2 h3)
    · refine w_iconst (v := 1) dX7_readsAmounts_42 (by decide) ?_
      refine w_goto (tgt := 47) dX7_readsAmounts_43 (by decide) ?_
      refine w_iconst (v := 2) dX7_readsAmounts_47 (by decide) ?_
      refine y_callV dX7_readsAmounts_48 lk_X7_183 [.int _, .int 2] rfl (m_must_b E l hR h1 h2 _ _) (g_recv.obj (ci := 7) rfl (by decide) (show 79 < N by omega)) rfl ⟨⟨by decide, by decide⟩, by decide, by decide⟩ (lb rfl) ?_
      refine w_pop dX7_readsAmounts_51 rfl ?_
      exact w_lv [2, 0, 1] (b52 x I' J' e h1 h2 h3)
  have loop : ∀ (f a : Nat) (acc : List Nat) (I' : Nat → Nat → Int32) (J' : Nat → Nat → Int64), acc.length + f = 9 → acc.length ≤ 8 → (∀ x ∈ acc, 1 ≤ x ∧ x ≤ most) → amM tx L most f a acc = Q → a ≤ L → frU I I' J J' → I' 79 28 = nI 0 → mtC I' J' tx L a → tdC I' acc → g_Wp E l mX7_readsAmounts { frames := 3, cells := 0, slots := 0, locals := 62 } (g_Fin E (g_rk (fun I' J' => amQ I J tx L I' J' Q) R D N ex) 0 0) 0 0 7 [(2, .int (b2i (decide (acc.length = 0 ∨ isNu tx L a = true)))), (0, .ref 79), (1, .int (nI most))] [] (I', J', R, D, N, ex) := by
    intro f
    induction f with
    | zero => intro a acc I' J' h1 h2; omega
    | succ f ih =>
      intro a acc I' J' hf h8 hx hq ha f1 g1 g2 g3
      rw [amM] at hq
      have hb := tk_b (tx := tx) ha
      have hmk := mtk_le tx L a
      by_cases hstop : 0 < acc.length ∧ isNu tx L a = false
      · rw [if_pos hstop] at hq
        refine w_iload_n dX7_readsAmounts_7 rfl ?_
        rw [decide_eq_false (show ¬ (acc.length = 0 ∨ isNu tx L a = true) from fun q => by rcases q with q | q; omega; rw [hstop.2] at q; cases q)]
        refine w_if_eq (tgt := 139) dX7_readsAmounts_8 (by decide) (fun c_8 => ?_) (fun c_8 => absurd (rfl) c_8)
        refine w_vret dX7_readsAmounts_139 rfl ⟨_, _, rfl, (by rw [← hq]; exact ⟨f1, g1, g2, g3⟩), rfl⟩ (by decide) (by decide)
      · rw [if_neg hstop] at hq
        have hmore : acc.length = 0 ∨ isNu tx L a = true := by
          cases e : isNu tx L a with
          | true => exact Or.inr rfl
          | false => left; rcases Nat.eq_zero_or_pos acc.length with z | z; exact z; exact absurd ⟨z, e⟩ hstop
        cases hu : isNu tx L a with
        | false =>
          rw [if_pos hu] at hq
          have hm2 : mtk tx L a ≠ 2 := fun q => by rw [mtk_2.mp q] at hu; cases hu
          refine w_iload_n dX7_readsAmounts_7 rfl ?_
          rw [decide_eq_true (show acc.length = 0 ∨ false = true from by rw [hu] at hmore; exact hmore)]
          refine w_if_eq (tgt := 139) dX7_readsAmounts_8 (by decide) (fun c_8 => absurd c_8 ((by decide))) (fun c_8 => ?_)
          refine w_aload_n dX7_readsAmounts_11 rfl ?_
          refine w_aload_n dX7_readsAmounts_12 rfl ?_
          refine x_geti (ci := 7) (k := 26) dX7_readsAmounts_13 rfl (by decide) (by decide) (by omega) fl_X7_143 rfl ?_
          rw [g2.2.2.1]
          refine w_iconst (v := 2) dX7_readsAmounts_16 (by decide) ?_
          refine w_icmp_ne (tgt := 24) dX7_readsAmounts_17 (by decide) (fun c_17 => ?_) (fun c_17 => absurd c_17 ((fun q => hm2 (n_eq (b := 2) q))))
          refine w_iconst (v := 0) dX7_readsAmounts_24 (by decide) ?_
          refine w_iconst (v := 1) dX7_readsAmounts_25 (by decide) ?_
          refine y_callV dX7_readsAmounts_26 lk_X7_183 [.int 0, .int (nI 1)] rfl (m_must_f E l hR g1 (k := 1) (by decide)) (g_recv.obj (ci := 7) rfl (by decide) (show 79 < N by omega)) rfl ⟨⟨by decide, by decide⟩, by decide, by decide⟩ (lb rfl) ?_
          refine w_pop dX7_readsAmounts_29 rfl ?_
          exact w_lv [2, 0, 1] (b30 _ _ J' 1 acc.length (by rw [up2_n _ _ (by simp), up2_s]) (by decide) (by rw [up2_n _ _ (by simp), up2_n _ _ (by simp)]; exact g3.1) h8 (by rw [← hq]; exact ⟨f1.er _ _, by rw [up2_n _ _ (by simp), up2_s], by rw [up2_s]; exact g2.1, (by dsimp only; decide), (by dsimp only; decide)⟩))
        | true =>
          rw [if_neg (by rw [hu]; decide)] at hq
          have hm2 : mtk tx L a = 2 := mtk_2.mpr hu
          have hv := nmT_lt hu
          have hnum := g2.2.2.2.2 hm2
          have hto : toB (I' 97) (nI (nmT tx L a)) acc.length = decide (nmT tx L a ∈ acc) := by
            rw [toB_mem (by omega) (Nat.le_refl _) g3.2 (fun x hx' => by have := hx x hx'; omega), List.take_length]
          by_cases hr9 : nmT tx L a < 1 ∨ most < nmT tx L a
          · rw [if_pos hr9] at hq
            have hni : nmT tx L a ∉ acc := fun q => by have := hx _ q; omega
            refine w_iload_n dX7_readsAmounts_7 rfl ?_
            rw [decide_eq_true (show acc.length = 0 ∨ true = true from Or.inr rfl)]
            refine w_if_eq (tgt := 139) dX7_readsAmounts_8 (by decide) (fun c_8 => absurd c_8 ((by decide))) (fun c_8 => ?_)
            refine w_aload_n dX7_readsAmounts_11 rfl ?_
            refine w_aload_n dX7_readsAmounts_12 rfl ?_
            refine x_geti (ci := 7) (k := 26) dX7_readsAmounts_13 rfl (by decide) (by decide) (by omega) fl_X7_143 rfl ?_
            rw [g2.2.2.1, hm2]
            refine w_iconst (v := 2) dX7_readsAmounts_16 (by decide) ?_
            refine w_icmp_ne (tgt := 24) dX7_readsAmounts_17 (by decide) (fun c_17 => absurd (rfl) c_17) (fun c_17 => ?_)
            refine w_iconst (v := 1) dX7_readsAmounts_20 (by decide) ?_
            refine w_goto (tgt := 25) dX7_readsAmounts_21 (by decide) ?_
            refine w_iconst (v := 1) dX7_readsAmounts_25 (by decide) ?_
            refine y_callV dX7_readsAmounts_26 lk_X7_183 [.int 1, .int 1] rfl (m_must_t E l hR g1 1) (g_recv.obj (ci := 7) rfl (by decide) (show 79 < N by omega)) rfl ⟨⟨by decide, by decide⟩, by decide, by decide⟩ (lb rfl) ?_
            refine w_pop dX7_readsAmounts_29 rfl ?_
            refine w_aload_n dX7_readsAmounts_30 rfl ?_
            refine w_aload_n dX7_readsAmounts_31 rfl ?_
            refine w_aload_n dX7_readsAmounts_32 rfl ?_
            refine x_geti (ci := 7) (k := 27) dX7_readsAmounts_33 rfl (by decide) (by decide) (by omega) fl_X7_146 rfl ?_
            rw [hnum]
            refine y_callV dX7_readsAmounts_36 lk_X7_187 [.int (nI (nmT tx L a))] rfl (m_isTold E l hR g3.1 h8 _) (g_recv.obj (ci := 7) rfl (by decide) (show 79 < N by omega)) rfl ⟨⟨by decide, by decide⟩, by decide, by decide⟩ (lb rfl) ?_
            rw [hto, decide_eq_false hni]
            refine w_if_ne (tgt := 46) dX7_readsAmounts_39 (by decide) (fun c_39 => absurd (rfl) c_39) (fun c_39 => ?_)
            refine w_iconst (v := 1) dX7_readsAmounts_42 (by decide) ?_
            refine w_goto (tgt := 47) dX7_readsAmounts_43 (by decide) ?_
            refine w_iconst (v := 2) dX7_readsAmounts_47 (by decide) ?_
            refine y_callV dX7_readsAmounts_48 lk_X7_183 [.int 1, .int 2] rfl (m_must_t E l hR g1 2) (g_recv.obj (ci := 7) rfl (by decide) (show 79 < N by omega)) rfl ⟨⟨by decide, by decide⟩, by decide, by decide⟩ (lb rfl) ?_
            refine w_pop dX7_readsAmounts_51 rfl ?_
            refine w_aload_n dX7_readsAmounts_52 rfl ?_
            refine w_aload_n dX7_readsAmounts_53 rfl ?_
            refine x_geti (ci := 7) (k := 27) dX7_readsAmounts_54 rfl (by decide) (by decide) (by omega) fl_X7_146 rfl ?_
            rw [hnum]
            refine w_iconst (v := 1) dX7_readsAmounts_57 (by decide) ?_
            refine w_iload_n dX7_readsAmounts_58 rfl ?_
            refine y_callS dX7_readsAmounts_59 lk_X7_77 [.int (nI (nmT tx L a)), .int 1, .int (nI most)] rfl (m_within E l _ _ _ _) rfl ⟨⟨by decide, by decide⟩, by decide, by decide⟩ (lb rfl) ?_
            rw [decide_eq_false (show ¬ (¬ nI (nmT tx L a) < 1 ∧ ¬ nI most < nI (nmT tx L a)) from fun q => by rcases hr9 with z | z; exact q.1 (nI_lt (b := 1) (by omega) (by omega)); exact q.2 (nI_lt (by omega) (by omega)))]
            refine w_iconst (v := 3) dX7_readsAmounts_62 (by decide) ?_
            refine y_callV dX7_readsAmounts_63 lk_X7_183 [.int 0, .int (nI 3)] rfl (m_must_f E l hR g1 (k := 3) (by decide)) (g_recv.obj (ci := 7) rfl (by decide) (show 79 < N by omega)) rfl ⟨⟨by decide, by decide⟩, by decide, by decide⟩ (lb rfl) ?_
            refine w_pop dX7_readsAmounts_66 rfl ?_
            exact w_lv [2, 0, 1] (b67 _ _ J' 3 (by rw [up2_n _ _ (by simp), up2_s]) (by decide) (by rw [← hq]; exact ⟨f1.er _ _, by rw [up2_n _ _ (by simp), up2_s], by rw [up2_s]; exact g2.1, (by dsimp only; decide), (by dsimp only; decide)⟩))
          · rw [if_neg hr9] at hq
            by_cases hin : nmT tx L a ∈ acc
            · rw [if_pos hin] at hq
              refine w_iload_n dX7_readsAmounts_7 rfl ?_
              rw [decide_eq_true (show acc.length = 0 ∨ true = true from Or.inr rfl)]
              refine w_if_eq (tgt := 139) dX7_readsAmounts_8 (by decide) (fun c_8 => absurd c_8 ((by decide))) (fun c_8 => ?_)
              refine w_aload_n dX7_readsAmounts_11 rfl ?_
              refine w_aload_n dX7_readsAmounts_12 rfl ?_
              refine x_geti (ci := 7) (k := 26) dX7_readsAmounts_13 rfl (by decide) (by decide) (by omega) fl_X7_143 rfl ?_
              rw [g2.2.2.1, hm2]
              refine w_iconst (v := 2) dX7_readsAmounts_16 (by decide) ?_
              refine w_icmp_ne (tgt := 24) dX7_readsAmounts_17 (by decide) (fun c_17 => absurd (rfl) c_17) (fun c_17 => ?_)
              refine w_iconst (v := 1) dX7_readsAmounts_20 (by decide) ?_
              refine w_goto (tgt := 25) dX7_readsAmounts_21 (by decide) ?_
              refine w_iconst (v := 1) dX7_readsAmounts_25 (by decide) ?_
              refine y_callV dX7_readsAmounts_26 lk_X7_183 [.int 1, .int 1] rfl (m_must_t E l hR g1 1) (g_recv.obj (ci := 7) rfl (by decide) (show 79 < N by omega)) rfl ⟨⟨by decide, by decide⟩, by decide, by decide⟩ (lb rfl) ?_
              refine w_pop dX7_readsAmounts_29 rfl ?_
              refine w_aload_n dX7_readsAmounts_30 rfl ?_
              refine w_aload_n dX7_readsAmounts_31 rfl ?_
              refine w_aload_n dX7_readsAmounts_32 rfl ?_
              refine x_geti (ci := 7) (k := 27) dX7_readsAmounts_33 rfl (by decide) (by decide) (by omega) fl_X7_146 rfl ?_
              rw [hnum]
              refine y_callV dX7_readsAmounts_36 lk_X7_187 [.int (nI (nmT tx L a))] rfl (m_isTold E l hR g3.1 h8 _) (g_recv.obj (ci := 7) rfl (by decide) (show 79 < N by omega)) rfl ⟨⟨by decide, by decide⟩, by decide, by decide⟩ (lb rfl) ?_
              rw [hto, decide_eq_true hin]
              refine w_if_ne (tgt := 46) dX7_readsAmounts_39 (by decide) (fun c_39 => ?_) (fun c_39 => absurd c_39 ((by decide)))
              refine w_iconst (v := 0) dX7_readsAmounts_46 (by decide) ?_
              refine w_iconst (v := 2) dX7_readsAmounts_47 (by decide) ?_
              refine y_callV dX7_readsAmounts_48 lk_X7_183 [.int 0, .int (nI 2)] rfl (m_must_f E l hR g1 (k := 2) (by decide)) (g_recv.obj (ci := 7) rfl (by decide) (show 79 < N by omega)) rfl ⟨⟨by decide, by decide⟩, by decide, by decide⟩ (lb rfl) ?_
              refine w_pop dX7_readsAmounts_51 rfl ?_
              exact w_lv [2, 0, 1] (b52 _ _ J' 2 (by rw [up2_n _ _ (by simp), up2_s]) (by decide) (by rw [← hq]; exact ⟨f1.er _ _, by rw [up2_n _ _ (by simp), up2_s], by rw [up2_s]; exact g2.1, (by dsimp only; decide), (by dsimp only; decide)⟩))
            · rw [if_neg hin] at hq
              by_cases he8 : acc.length = 8
              · rw [if_pos he8] at hq
                refine w_iload_n dX7_readsAmounts_7 rfl ?_
                rw [decide_eq_true (show acc.length = 0 ∨ true = true from Or.inr rfl)]
                refine w_if_eq (tgt := 139) dX7_readsAmounts_8 (by decide) (fun c_8 => absurd c_8 ((by decide))) (fun c_8 => ?_)
                refine w_aload_n dX7_readsAmounts_11 rfl ?_
                refine w_aload_n dX7_readsAmounts_12 rfl ?_
                refine x_geti (ci := 7) (k := 26) dX7_readsAmounts_13 rfl (by decide) (by decide) (by omega) fl_X7_143 rfl ?_
                rw [g2.2.2.1, hm2]
                refine w_iconst (v := 2) dX7_readsAmounts_16 (by decide) ?_
                refine w_icmp_ne (tgt := 24) dX7_readsAmounts_17 (by decide) (fun c_17 => absurd (rfl) c_17) (fun c_17 => ?_)
                refine w_iconst (v := 1) dX7_readsAmounts_20 (by decide) ?_
                refine w_goto (tgt := 25) dX7_readsAmounts_21 (by decide) ?_
                refine w_iconst (v := 1) dX7_readsAmounts_25 (by decide) ?_
                refine y_callV dX7_readsAmounts_26 lk_X7_183 [.int 1, .int 1] rfl (m_must_t E l hR g1 1) (g_recv.obj (ci := 7) rfl (by decide) (show 79 < N by omega)) rfl ⟨⟨by decide, by decide⟩, by decide, by decide⟩ (lb rfl) ?_
                refine w_pop dX7_readsAmounts_29 rfl ?_
                refine w_aload_n dX7_readsAmounts_30 rfl ?_
                refine w_aload_n dX7_readsAmounts_31 rfl ?_
                refine w_aload_n dX7_readsAmounts_32 rfl ?_
                refine x_geti (ci := 7) (k := 27) dX7_readsAmounts_33 rfl (by decide) (by decide) (by omega) fl_X7_146 rfl ?_
                rw [hnum]
                refine y_callV dX7_readsAmounts_36 lk_X7_187 [.int (nI (nmT tx L a))] rfl (m_isTold E l hR g3.1 h8 _) (g_recv.obj (ci := 7) rfl (by decide) (show 79 < N by omega)) rfl ⟨⟨by decide, by decide⟩, by decide, by decide⟩ (lb rfl) ?_
                rw [hto, decide_eq_false hin]
                refine w_if_ne (tgt := 46) dX7_readsAmounts_39 (by decide) (fun c_39 => absurd (rfl) c_39) (fun c_39 => ?_)
                refine w_iconst (v := 1) dX7_readsAmounts_42 (by decide) ?_
                refine w_goto (tgt := 47) dX7_readsAmounts_43 (by decide) ?_
                refine w_iconst (v := 2) dX7_readsAmounts_47 (by decide) ?_
                refine y_callV dX7_readsAmounts_48 lk_X7_183 [.int 1, .int 2] rfl (m_must_t E l hR g1 2) (g_recv.obj (ci := 7) rfl (by decide) (show 79 < N by omega)) rfl ⟨⟨by decide, by decide⟩, by decide, by decide⟩ (lb rfl) ?_
                refine w_pop dX7_readsAmounts_51 rfl ?_
                refine w_aload_n dX7_readsAmounts_52 rfl ?_
                refine w_aload_n dX7_readsAmounts_53 rfl ?_
                refine x_geti (ci := 7) (k := 27) dX7_readsAmounts_54 rfl (by decide) (by decide) (by omega) fl_X7_146 rfl ?_
                rw [hnum]
                refine w_iconst (v := 1) dX7_readsAmounts_57 (by decide) ?_
                refine w_iload_n dX7_readsAmounts_58 rfl ?_
                refine y_callS dX7_readsAmounts_59 lk_X7_77 [.int (nI (nmT tx L a)), .int 1, .int (nI most)] rfl (m_within E l _ _ _ _) rfl ⟨⟨by decide, by decide⟩, by decide, by decide⟩ (lb rfl) ?_
                rw [decide_eq_true (show ¬ nI (nmT tx L a) < 1 ∧ ¬ nI most < nI (nmT tx L a) from ⟨nI_nlt (b := 1) (by omega) (by omega), nI_nlt (by omega) (by omega)⟩)]
                refine w_iconst (v := 3) dX7_readsAmounts_62 (by decide) ?_
                refine y_callV dX7_readsAmounts_63 lk_X7_183 [.int 1, .int 3] rfl (m_must_t E l hR g1 3) (g_recv.obj (ci := 7) rfl (by decide) (show 79 < N by omega)) rfl ⟨⟨by decide, by decide⟩, by decide, by decide⟩ (lb rfl) ?_
                refine w_pop dX7_readsAmounts_66 rfl ?_
                refine w_aload_n dX7_readsAmounts_67 rfl ?_
                refine w_aload_n dX7_readsAmounts_68 rfl ?_
                refine x_geti (ci := 7) (k := 35) dX7_readsAmounts_69 rfl (by decide) (by decide) (by omega) fl_X7_180 rfl ?_
                rw [g3.1, he8]
                refine w_bipush (v := 8) dX7_readsAmounts_72 (by decide) ?_
                refine w_icmp_ge (tgt := 81) dX7_readsAmounts_74 (by decide) (fun c_74 => ?_) (fun c_74 => absurd ((by decide)) c_74)
                refine w_iconst (v := 0) dX7_readsAmounts_81 (by decide) ?_
                refine w_iconst (v := 5) dX7_readsAmounts_82 (by decide) ?_
                refine y_callV dX7_readsAmounts_83 lk_X7_183 [.int 0, .int (nI 5)] rfl (m_must_f E l hR g1 (k := 5) (by decide)) (g_recv.obj (ci := 7) rfl (by decide) (show 79 < N by omega)) rfl ⟨⟨by decide, by decide⟩, by decide, by decide⟩ (lb rfl) ?_
                refine w_pop dX7_readsAmounts_86 rfl ?_
                exact w_lv [2, 0, 1] (b87 _ _ J' 5 (by rw [up2_n _ _ (by simp), up2_s]) (by decide) (by rw [← hq]; exact ⟨f1.er _ _, by rw [up2_n _ _ (by simp), up2_s], by rw [up2_s]; exact g2.1, (by dsimp only; decide), (by dsimp only; decide)⟩))
              · rw [if_neg he8] at hq
                have hl9 : (acc ++ [nmT tx L a]).length = acc.length + 1 := by rw [List.length_append]; rfl
                have t9 := ih (tkE tx L a) (acc ++ [nmT tx L a])
                rw [hl9] at t9
                have td9 : ∀ I'' : Nat → Nat → Int32, I'' 97 = (fun j => if j = acc.length then nI (nmT tx L a) else I' 97 j) → I'' 79 35 = nI (acc.length + 1) → tdC I'' (acc ++ [nmT tx L a]) := by
                  intro I'' q1 q2
                  refine ⟨by rw [q2, hl9], fun j hj => ?_⟩
                  rw [q1]
                  rw [hl9] at hj
                  show (if j = acc.length then _ else _) = _
                  by_cases e : j = acc.length
                  · subst e
                    rw [if_pos rfl, List.getElem_append_right (Nat.le_refl _)]
                    simp
                  · rw [if_neg e, List.getElem_append_left (show j < acc.length by omega)]
                    exact g3.2 j (by omega)
                have r1 := hr.u f1
                have f2 : frU I (up2 (up2 I' 97 acc.length (nI (nmT tx L a))) 79 35 (nI (acc.length + 1))) J J' := (f1.trans ⟨fun o _ b => by funext j; exact up2_n _ _ (by simp [b]), fun k _ _ => up2_n _ _ (by simp), fun _ _ _ => rfl⟩).up (by decide) _
                have e97 : (up2 (up2 I' 97 acc.length (nI (nmT tx L a))) 79 35 (nI (acc.length + 1))) 97 = (fun j => if j = acc.length then nI (nmT tx L a) else I' 97 j) := by
                  funext j
                  rw [up2_n _ _ (by simp)]
                  show (if (97 : Nat) = 97 ∧ j = acc.length then _ else _) = _
                  simp
                have e35 : (up2 (up2 I' 97 acc.length (nI (nmT tx L a))) 79 35 (nI (acc.length + 1))) 79 35 = nI (acc.length + 1) := up2_s ..
                have e25 : (up2 (up2 I' 97 acc.length (nI (nmT tx L a))) 79 35 (nI (acc.length + 1))) 79 25 = nI (tkE tx L a) := by rw [up2_n _ _ (by simp), up2_n _ _ (by simp)]; exact g2.2.1
                have e28 : (up2 (up2 I' 97 acc.length (nI (nmT tx L a))) 79 35 (nI (acc.length + 1))) 79 28 = nI 0 := by rw [up2_n _ _ (by simp), up2_n _ _ (by simp)]; exact g1
                refine w_iload_n dX7_readsAmounts_7 rfl ?_
                rw [decide_eq_true (show acc.length = 0 ∨ true = true from Or.inr rfl)]
                refine w_if_eq (tgt := 139) dX7_readsAmounts_8 (by decide) (fun c_8 => absurd c_8 ((by decide))) (fun c_8 => ?_)
                refine w_aload_n dX7_readsAmounts_11 rfl ?_
                refine w_aload_n dX7_readsAmounts_12 rfl ?_
                refine x_geti (ci := 7) (k := 26) dX7_readsAmounts_13 rfl (by decide) (by decide) (by omega) fl_X7_143 rfl ?_
                rw [g2.2.2.1, hm2]
                refine w_iconst (v := 2) dX7_readsAmounts_16 (by decide) ?_
                refine w_icmp_ne (tgt := 24) dX7_readsAmounts_17 (by decide) (fun c_17 => absurd (rfl) c_17) (fun c_17 => ?_)
                refine w_iconst (v := 1) dX7_readsAmounts_20 (by decide) ?_
                refine w_goto (tgt := 25) dX7_readsAmounts_21 (by decide) ?_
                refine w_iconst (v := 1) dX7_readsAmounts_25 (by decide) ?_
                refine y_callV dX7_readsAmounts_26 lk_X7_183 [.int 1, .int 1] rfl (m_must_t E l hR g1 1) (g_recv.obj (ci := 7) rfl (by decide) (show 79 < N by omega)) rfl ⟨⟨by decide, by decide⟩, by decide, by decide⟩ (lb rfl) ?_
                refine w_pop dX7_readsAmounts_29 rfl ?_
                refine w_aload_n dX7_readsAmounts_30 rfl ?_
                refine w_aload_n dX7_readsAmounts_31 rfl ?_
                refine w_aload_n dX7_readsAmounts_32 rfl ?_
                refine x_geti (ci := 7) (k := 27) dX7_readsAmounts_33 rfl (by decide) (by decide) (by omega) fl_X7_146 rfl ?_
                rw [hnum]
                refine y_callV dX7_readsAmounts_36 lk_X7_187 [.int (nI (nmT tx L a))] rfl (m_isTold E l hR g3.1 h8 _) (g_recv.obj (ci := 7) rfl (by decide) (show 79 < N by omega)) rfl ⟨⟨by decide, by decide⟩, by decide, by decide⟩ (lb rfl) ?_
                rw [hto, decide_eq_false hin]
                refine w_if_ne (tgt := 46) dX7_readsAmounts_39 (by decide) (fun c_39 => absurd (rfl) c_39) (fun c_39 => ?_)
                refine w_iconst (v := 1) dX7_readsAmounts_42 (by decide) ?_
                refine w_goto (tgt := 47) dX7_readsAmounts_43 (by decide) ?_
                refine w_iconst (v := 2) dX7_readsAmounts_47 (by decide) ?_
                refine y_callV dX7_readsAmounts_48 lk_X7_183 [.int 1, .int 2] rfl (m_must_t E l hR g1 2) (g_recv.obj (ci := 7) rfl (by decide) (show 79 < N by omega)) rfl ⟨⟨by decide, by decide⟩, by decide, by decide⟩ (lb rfl) ?_
                refine w_pop dX7_readsAmounts_51 rfl ?_
                refine w_aload_n dX7_readsAmounts_52 rfl ?_
                refine w_aload_n dX7_readsAmounts_53 rfl ?_
                refine x_geti (ci := 7) (k := 27) dX7_readsAmounts_54 rfl (by decide) (by decide) (by omega) fl_X7_146 rfl ?_
                rw [hnum]
                refine w_iconst (v := 1) dX7_readsAmounts_57 (by decide) ?_
                refine w_iload_n dX7_readsAmounts_58 rfl ?_
                refine y_callS dX7_readsAmounts_59 lk_X7_77 [.int (nI (nmT tx L a)), .int 1, .int (nI most)] rfl (m_within E l _ _ _ _) rfl ⟨⟨by decide, by decide⟩, by decide, by decide⟩ (lb rfl) ?_
                rw [decide_eq_true (show ¬ nI (nmT tx L a) < 1 ∧ ¬ nI most < nI (nmT tx L a) from ⟨nI_nlt (b := 1) (by omega) (by omega), nI_nlt (by omega) (by omega)⟩)]
                refine w_iconst (v := 3) dX7_readsAmounts_62 (by decide) ?_
                refine y_callV dX7_readsAmounts_63 lk_X7_183 [.int 1, .int 3] rfl (m_must_t E l hR g1 3) (g_recv.obj (ci := 7) rfl (by decide) (show 79 < N by omega)) rfl ⟨⟨by decide, by decide⟩, by decide, by decide⟩ (lb rfl) ?_
                refine w_pop dX7_readsAmounts_66 rfl ?_
                refine w_aload_n dX7_readsAmounts_67 rfl ?_
                refine w_aload_n dX7_readsAmounts_68 rfl ?_
                refine x_geti (ci := 7) (k := 35) dX7_readsAmounts_69 rfl (by decide) (by decide) (by omega) fl_X7_180 rfl ?_
                rw [g3.1]
                refine w_bipush (v := 8) dX7_readsAmounts_72 (by decide) ?_
                refine w_icmp_ge (tgt := 81) dX7_readsAmounts_74 (by decide) (fun c_74 => absurd c_74 ((nI_ge (a := acc.length) (b := 8) (by omega) (by omega)))) (fun c_74 => ?_)
                refine w_iconst (v := 1) dX7_readsAmounts_77 (by decide) ?_
                refine w_goto (tgt := 82) dX7_readsAmounts_78 (by decide) ?_
                refine w_iconst (v := 5) dX7_readsAmounts_82 (by decide) ?_
                refine y_callV dX7_readsAmounts_83 lk_X7_183 [.int 1, .int 5] rfl (m_must_t E l hR g1 5) (g_recv.obj (ci := 7) rfl (by decide) (show 79 < N by omega)) rfl ⟨⟨by decide, by decide⟩, by decide, by decide⟩ (lb rfl) ?_
                refine w_pop dX7_readsAmounts_86 rfl ?_
                refine w_aload_n dX7_readsAmounts_87 rfl ?_
                refine y_callV dX7_readsAmounts_88 lk_X7_161 [] rfl (m_isGood E l hR g1 (by decide)) (g_recv.obj (ci := 7) rfl (by decide) (show 79 < N by omega)) rfl ⟨⟨by decide, by decide⟩, by decide, by decide⟩ (lb rfl) ?_
                refine w_if_ne (tgt := 95) dX7_readsAmounts_91 (by decide) (fun c_91 => ?_) (fun c_91 => absurd c_91 ((by decide)))
                refine w_aload_n dX7_readsAmounts_95 rfl ?_
                refine x_getr (ci := 7) (k := 34) (a := 97) dX7_readsAmounts_96 rfl (by decide) (by decide) (by omega) fl_X7_63 (Or.inr ⟨_, rfl⟩) hR.2.2.2.2.2.2.2.2.2.2.2.2.2.2.2.2.2.2.1 ?_
                refine w_aload_n dX7_readsAmounts_99 rfl ?_
                refine x_geti (ci := 7) (k := 35) dX7_readsAmounts_100 rfl (by decide) (by decide) (by omega) fl_X7_180 rfl ?_
                rw [g3.1]
                refine w_aload_n dX7_readsAmounts_103 rfl ?_
                refine x_geti (ci := 7) (k := 27) dX7_readsAmounts_104 rfl (by decide) (by decide) (by omega) fl_X7_146 rfl ?_
                rw [hnum]
                refine x_iast (j := acc.length) dX7_readsAmounts_107 rfl (by omega) rfl (show acc.length < 8 by omega) ?_
                refine w_aload_n dX7_readsAmounts_108 rfl ?_
                refine w_dup dX7_readsAmounts_109 rfl ?_
                refine x_geti (ci := 7) (k := 35) dX7_readsAmounts_110 rfl (by decide) (by decide) (by omega) fl_X7_180 rfl ?_
                refine w_st (show _ = [.int (nI acc.length), .ref 79] from by rw [up2_n _ _ (by simp), g3.1]) ?_
                refine w_iconst (v := 1) dX7_readsAmounts_113 (by decide) ?_
                refine w_iadd dX7_readsAmounts_114 ?_
                rw [nI_1]
                refine x_puti (ci := 7) (k := 35) dX7_readsAmounts_115 rfl (by decide) (by decide) (by omega) fl_X7_180 rfl rfl ?_
                refine w_aload_n dX7_readsAmounts_118 rfl ?_
                refine k_callV dX7_readsAmounts_119 lk_X7_168 [] rfl (m_nextToken E l hR (hr.u f2) hb.2.2.2.1 e25) (g_recv.obj (ci := 7) rfl (by decide) (show 79 < N by omega)) rfl ⟨⟨by decide, by decide⟩, by decide, by decide⟩ (lb rfl) (fun I4 J4 h_119 => ?_)
                obtain ⟨k1, k2⟩ := h_119
                have t8 := t9 I4 J4 (by omega) (by omega) (fun x hx' => by rcases List.mem_append.mp hx' with z | z; exact hx x z; (rw [List.mem_singleton] at z; subst z; omega)) hq hb.2.2.2.1 (f2.trans k1.u) (by rw [k1.2.1 28 (by decide)]; exact e28) k2 (td9 I4 (by rw [k1.1 97 (by decide)]; exact e97) (by rw [k1.2.1 35 (by decide)]; exact e35))
                have hmk2 := mtk_le tx L (tkE tx L a)
                refine w_aload_n dX7_readsAmounts_122 rfl ?_
                refine x_geti (ci := 7) (k := 26) dX7_readsAmounts_123 rfl (by decide) (by decide) (by omega) fl_X7_143 rfl ?_
                rw [k2.2.2.1]
                refine w_iconst (v := 2) dX7_readsAmounts_126 (by decide) ?_
                refine w_icmp_ne (tgt := 134) dX7_readsAmounts_127 (by decide) (fun c_127 => ?_) (fun c_127 => ?_)
                · refine w_iconst (v := 0) dX7_readsAmounts_134 (by decide) ?_
                  refine w_istore_n dX7_readsAmounts_135 (by decide) rfl ?_
                  refine w_goto (tgt := 7) dX7_readsAmounts_136 (by decide) ?_
                  first | (rw [decide_eq_true (show acc.length + 1 = 0 ∨ isNu tx L (tkE tx L a) = true from Or.inr (mtk_2.mp (n_eq (b := 2) c_127)))] at t8; exact w_lv [2, 0, 1] t8) | (rw [decide_eq_false (show ¬ (acc.length + 1 = 0 ∨ isNu tx L (tkE tx L a) = true) from fun q => by rcases q with q | q; omega; exact c_127 (by rw [mtk_2.mpr q]; rfl))] at t8; exact w_lv [2, 0, 1] t8)
                · refine w_iconst (v := 1) dX7_readsAmounts_130 (by decide) ?_
                  refine w_goto (tgt := 135) dX7_readsAmounts_131 (by decide) ?_
                  refine w_istore_n dX7_readsAmounts_135 (by decide) rfl ?_
                  refine w_goto (tgt := 7) dX7_readsAmounts_136 (by decide) ?_
                  first | (rw [decide_eq_true (show acc.length + 1 = 0 ∨ isNu tx L (tkE tx L a) = true from Or.inr (mtk_2.mp (n_eq (b := 2) c_127)))] at t8; exact w_lv [2, 0, 1] t8) | (rw [decide_eq_false (show ¬ (acc.length + 1 = 0 ∨ isNu tx L (tkE tx L a) = true) from fun q => by rcases q with q | q; omega; exact c_127 (by rw [mtk_2.mpr q]; rfl))] at t8; exact w_lv [2, 0, 1] t8)
  refine w_aload_n dX7_readsAmounts_0 rfl ?_
  refine w_iconst (v := 0) dX7_readsAmounts_1 (by decide) ?_
  refine x_puti (ci := 7) (k := 35) dX7_readsAmounts_2 rfl (by decide) (by decide) (by omega) fl_X7_180 rfl rfl ?_
  refine w_iconst (v := 1) dX7_readsAmounts_5 (by decide) ?_
  refine w_istore_n dX7_readsAmounts_6 (by decide) rfl ?_
  exact w_lv [2, 0, 1] (loop 9 a [] _ J rfl (by decide) (fun x hx => absurd hx List.not_mem_nil) hQ ha ((frU.refl I J).up (by decide) _) (by rw [up2_n _ _ (by simp)]; exact hg) ⟨by rw [up2_n _ _ (by simp)]; exact hm.1, by rw [up2_n _ _ (by simp)]; exact hm.2.1, by rw [up2_n _ _ (by simp)]; exact hm.2.2.1, hm.2.2.2.1, fun q => by rw [up2_n _ _ (by simp)]; exact hm.2.2.2.2 q⟩ ⟨up2_s .., fun j hj => absurd hj (Nat.not_lt_zero j)⟩)
end MAa
