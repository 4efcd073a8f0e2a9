/-! HeapGamesModel: readsRule -/
def pmC (I : Nat → Nat → Int32) (J : Nat → Nat → Int64) (P : PS) : Prop := I 79 15 = nI P.ru.length ∧ (∀ k (h : k < P.ru.length), mrC I k (P.ru[k].2.1) (P.ru[k].2.2) ∧ J 92 k = lN (mw (P.nm k))) ∧ I 79 16 = nI (shM P.sh) ∧ slM I 80 0 P.st ∧ I 79 30 = b2i (decide (P.sh ≠ [])) ∧ I 79 31 = b2i P.hp ∧ I 79 32 = b2i P.mi
def frW (I I' : Nat → Nat → Int32) (J J' : Nat → Nat → Int64) : Prop := (∀ o, o ≠ 79 → o ≠ 80 → (o < 85 ∨ 87 < o) → o ≠ 97 → I' o = I o) ∧ (∀ k, (k < 15 ∨ 16 < k) → (k < 24 ∨ 32 < k) → k ≠ 35 → I' 79 k = I 79 k) ∧ ∀ o, o ≠ 79 → o ≠ 92 → J' o = J o
theorem frW.refl (I : Nat → Nat → Int32) (J : Nat → Nat → Int64) : frW I I J J := ⟨fun _ _ _ _ _ => rfl, fun _ _ _ _ => rfl, fun _ _ _ => rfl⟩
theorem frW.trans {I I' I'' : Nat → Nat → Int32} {J J' J'' : Nat → Nat → Int64} (h : frW I I' J J') (h' : frW I' I'' J' J'') : frW I I'' J J'' := ⟨fun o a b c d => (h'.1 o a b c d).trans (h.1 o a b c d), fun k a b c => (h'.2.1 k a b c).trans (h.2.1 k a b c), fun o a b => (h'.2.2 o a b).trans (h.2.2 o a b)⟩
theorem frU.w {I I' : Nat → Nat → Int32} {J J' : Nat → Nat → Int64} (h : frU I I' J J') : frW I I' J J' := ⟨fun o a _ _ d => h.1 o a d, fun k _ b c => h.2.1 k (by omega) c, fun o a _ => by funext k; exact h.2.2 o k (fun q => a q.1)⟩
theorem frW.up {I I' : Nat → Nat → Int32} {J J' : Nat → Nat → Int64} (h : frW I I' J J') {o k : Nat} (hk : (o = 79 ∧ ((15 ≤ k ∧ k ≤ 16) ∨ (24 ≤ k ∧ k ≤ 32) ∨ k = 35)) ∨ o = 80 ∨ (85 ≤ o ∧ o ≤ 87) ∨ o = 97) (v : Int32) : frW I (up2 I' o k v) J J' := ⟨fun o' a b c d => by rw [← h.1 o' a b c d]; funext j; exact up2_n _ _ (by omega), fun j a b c => by rw [← h.2.1 j a b c]; exact up2_n _ _ (by omega), h.2.2⟩
theorem mtx.w {I I' : Nat → Nat → Int32} {J J' : Nat → Nat → Int64} {tx : Nat → Nat} {L : Nat} (h : mtx I tx L) (f : frW I I' J J') : mtx I' tx L := ⟨by rw [f.2.1 23 (by decide) (by decide) (by decide)]; exact h.1, h.2.1, fun i hi => by rw [f.1 96 (by decide) (by decide) (by decide) (by decide)]; exact h.2.2 i hi⟩
theorem pmC.u {I I' : Nat → Nat → Int32} {J J' : Nat → Nat → Int64} {P : PS} (h : pmC I J P) (f : frU I I' J J') : pmC I' J' P := by
  obtain ⟨h1, h2, h3, h4, h5, h6, h7⟩ := h
  exact ⟨by rw [f.2.1 15 (by decide) (by decide)]; exact h1, fun k hk => ⟨(h2 k hk).1.fr (fun o a b => f.1 o (by omega) (by omega)), by rw [f.2.2 92 k (by simp)]; exact (h2 k hk).2⟩, by rw [f.2.1 16 (by decide) (by decide)]; exact h3, h4.fr (f.1 80 (by decide) (by decide)), by rw [f.2.1 30 (by decide) (by decide)]; exact h5, by rw [f.2.1 31 (by decide) (by decide)]; exact h6, by rw [f.2.1 32 (by decide) (by decide)]; exact h7⟩
def rsQ (I : Nat → Nat → Int32) (J : Nat → Nat → Int64) (tx : Nat → Nat) (L : Nat) (I' : Nat → Nat → Int32) (J' : Nat → Nat → Int64) (r : RdO) : Prop := frW I I' J J' ∧ match r with
  | .inl q => I' 79 28 = nI q.2 ∧ I' 79 29 = nI q.1 ∧ q.2 ≠ 0 ∧ q.2 ≤ 5
  | .inr q => I' 79 28 = nI 0 ∧ mtC I' J' tx L q.2 ∧ pmC I' J' q.1
theorem amM_ok {tx : Nat → Nat} {L most : Nat} : ∀ (f a : Nat) (acc : List Nat) (q : List Nat × Nat), acc.length ≤ 8 → acc.length + f = 9 → a ≤ L → (∀ x ∈ acc, 1 ≤ x ∧ x ≤ most) → amM tx L most f a acc = .inr q → (1 ≤ q.1.length ∧ q.1.length ≤ 8) ∧ (∀ x ∈ q.1, 1 ≤ x ∧ x ≤ most) ∧ a ≤ q.2 ∧ q.2 ≤ L
  | 0, a, acc, q, h1, h2, _, _, _ => by omega
  | f + 1, a, acc, q, h1, h2, ha, h3, h4 => by
    rw [amM] at h4
    have hb := tk_b (tx := tx) ha
    split at h4
    · rename_i hs
      cases h4
      exact ⟨⟨hs.1, h1⟩, h3, Nat.le_refl _, ha⟩
    · split at h4
      · cases h4
      · split at h4
        · cases h4
        · rename_i hr
          split at h4
          · cases h4
          · split at h4
            · cases h4
            · rename_i h8
              have hl : (acc ++ [nmT tx L a]).length = acc.length + 1 := by rw [List.length_append]; rfl
              have t := amM_ok f (tkE tx L a) (acc ++ [nmT tx L a]) q (by omega) (by omega) hb.2.2.2.1 (fun x hx => by
                rcases List.mem_append.mp hx with z | z
                · exact h3 x z
                · rw [List.mem_singleton] at z; subst z; omega) h4
              exact ⟨t.1, t.2.1, by omega, t.2.2.2⟩
def rdRuM (tx : Nat → Nat) (L a : Nat) (P : PS) : RdO :=
  if 6 ≤ P.ru.length then .inl (tkS tx L a, 5) else
  if isNm tx L (tkE tx L a) = false then .inl (tkS tx L (tkE tx L a), 1) else
  if fnR P (cdT tx L (tkE tx L a)) ≠ none then .inl (tkS tx L (tkE tx L a), 2) else
  if kdS tx L (tkE tx L (tkE tx L a)) = -1 then .inl (tkS tx L (tkE tx L (tkE tx L a)), 1) else
  if kdS tx L (tkE tx L (tkE tx L a)) = 0 then (match amM tx L 60 9 (tkE tx L (tkE tx L (tkE tx L a))) [] with
    | .inl q => .inl q
    | .inr q => .inr ((P.ru ++ [(cdT tx L (tkE tx L a), 0, q.1)], P.2), q.2))
  else .inr ((P.ru ++ [(cdT tx L (tkE tx L a), (kdS tx L (tkE tx L (tkE tx L a))).toInt.toNat, [])], P.2), tkE tx L (tkE tx L (tkE tx L a)))
theorem mwF_lt : ∀ f c, gdC f c → mwF f c < 27 ^ f
  | 0, c, _ => by show 0 < 1; omega
  | f + 1, c, h => by
    rw [mwF, Nat.pow_succ]
    rcases h with h | ⟨h1, h2, h3⟩
    · subst h
      rw [show 0 / 256 = 0 from rfl, mwF_0]
      have : 0 < 27 ^ f := Nat.pow_pos (by decide)
      omega
    · have := mwF_lt f _ h3
      omega
theorem mwF_inj : ∀ f c d, gdC f c → gdC f d → mwF f c = mwF f d → c = d
  | 0, c, d, hc, hd, _ => hc.trans hd.symm
  | f + 1, c, d, hc, hd, h => by
    rw [mwF, mwF] at h
    rcases hc with hc | ⟨c1, c2, c3⟩
    · rcases hd with hd | ⟨d1, d2, d3⟩
      · rw [hc, hd]
      · subst hc
        rw [show 0 / 256 = 0 from rfl, mwF_0, show 0 % 256 - 96 = 0 from rfl] at h
        omega
    · rcases hd with hd | ⟨d1, d2, d3⟩
      · subst hd
        rw [show 0 / 256 = 0 from rfl, mwF_0, show 0 % 256 - 96 = 0 from rfl] at h
        omega
      · have h9 := mwF_inj f _ _ c3 d3 (by omega)
        omega
theorem mw_eq {c d : Nat} (hc : gdC 8 c) (hd : gdC 8 d) : lN (mw c) = lN (mw d) ↔ c = d := by
  constructor
  · intro h
    have b1 : mw c < 27 ^ 8 := mwF_lt 8 c hc
    have b2 : mw d < 27 ^ 8 := mwF_lt 8 d hd
    exact mwF_inj 8 c d hc hd (lN_inj (Nat.lt_trans b1 (by decide)) (Nat.lt_trans b2 (by decide)) h)
  · intro h; rw [h]
theorem fn_eq {J : Nat → Nat → Int64} {P : PS} (hP : psOK P) {x : Nat} (hx : gdC 8 x) (hJ : ∀ k, k < P.ru.length → J 92 k = lN (mw (P.nm k))) : perF (fun k => decide (J 92 k = lN (mw x))) P.ru.length 0 = fnR P x := by
  unfold fnR
  refine perF_cong (fun k _ hk => ?_)
  have hk' : k < P.ru.length := by omega
  have hg : gdC 8 (P.nm k) := by rw [P.nm_e hk']; exact (hP.1 _ (List.getElem_mem hk')).1
  rw [hJ k hk']
  exact decide_eq_decide.mpr (mw_eq hg hx)
section MB
variable (E : GE) (l : Launch)
variable {I : Nat → Nat → Int32} {J : Nat → Nat → Int64} {R : Nat → Nat → Option Nat} {D : Nat → Nat → UInt64} {N : Nat} {ex : Bool} {tx : Nat → Nat} {L a : Nat} {P : PS}
set_option maxRecDepth 100000 in
theorem m_readsRule (hR : lkM R N) (hg : I 79 28 = nI 0) (hr : mtx I tx L) (hm : mtC I J tx L a) (ha : a ≤ L) (hp : pmC I J P) (hP : psOK P) : g_Ct E l mX7_readsRule 6 127 0 0 [.ref 79] (I, J, R, D, N, ex) (g_rk (fun I' J' => rsQ I J tx L I' J' (rdRuM tx L a P)) R D N ex) := by
  refine g_Ct.of (by decide +kernel) (lb rfl) ?_
  have hN := hR.1
  have hL := hr.2.1
  have hb := tk_b (tx := tx) ha
  have hb2 := tk_b (tx := tx) hb.2.2.2.1
  have hb3 := tk_b (tx := tx) hb2.2.2.2.1
  have h6 : P.ru.length ≤ 6 := hP.2.1
  generalize hq : rdRuM tx L a P = Q
  unfold rdRuM at hq
  have b138 : ∀ (x : Int32) (I' : Nat → Nat → Int32) (J' : Nat → Nat → Int64) (e : Nat), I' 79 28 = nI e → e ≠ 0 ∧ e ≤ 5 → rsQ I J tx L I' J' Q → g_Wp E l mX7_readsRule { frames := 6, cells := 0, slots := 0, locals := 127 } (g_Fin E (g_rk (fun I' J' => rsQ I J tx L I' J' Q) R D N ex) 0 0) 0 0 138 [(1, .int x), (0, .ref 79)] [] (I', J', R, D, N, ex) := by
    intro x I' J' e h1 h2 h3
    refine w_aload_n dX7_readsRule_138 rfl ?_
    refine y_callV dX7_readsRule_139 lk_X7_161 [] rfl (m_isGood E l hR h1 h2.2) (g_recv.obj (ci := 7) rfl (by decide) (show 79 < N by omega)) rfl ⟨⟨by decide, by decide⟩, by decide, by decide⟩ (lb rfl) ?_
    rw [decide_eq_false h2.1]
    refine w_if_ne (tgt := 146) dX7_readsRule_142 (by decide) (fun c_142 => absurd (rfl) c_142) (fun c_142 => ?_)
    refine w_vret dX7_readsRule_145 rfl ⟨_, _, rfl, h3, rfl⟩ (by decide) (by decide)
  have b112 : ∀ (x : Int32) (I' : Nat → Nat → Int32) (J' : Nat → Nat → Int64) (e : Nat), I' 79 28 = nI e → e ≠ 0 ∧ e ≤ 5 → (∀ v, rsQ I J tx L (up2 I' 79 35 v) J' Q) → g_Wp E l mX7_readsRule { frames := 6, cells := 0, slots := 0, locals := 127 } (g_Fin E (g_rk (fun I' J' => rsQ I J tx L I' J' Q) R D N ex) 0 0) 0 0 112 [(1, .int x), (0, .ref 79)] [] (I', J', R, D, N, ex) := by
    intro x I' J' e h1 h2 h3
    have h1' : up2 I' 79 35 0 79 28 = nI e := by rw [up2_n _ _ (by simp)]; exact h1
    refine w_aload_n dX7_readsRule_112 rfl ?_
    refine z_callV dX7_readsRule_113 lk_X7_204 [] rfl (m_goOn_b E l hR h1 h2) (g_recv.obj (ci := 7) rfl (by decide) (show 79 < N by omega)) rfl ⟨⟨by decide, by decide⟩, by decide, by decide⟩ (lb rfl) ?_
    refine w_aload_n dX7_readsRule_116 rfl ?_
    refine w_iconst (v := 0) dX7_readsRule_117 (by decide) ?_
    refine x_puti (ci := 7) (k := 35) dX7_readsRule_118 rfl (by decide) (by decide) (by omega) fl_X7_180 rfl rfl ?_
    refine w_aload_n dX7_readsRule_121 rfl ?_
    refine y_callV dX7_readsRule_122 lk_X7_161 [] rfl (m_isGood E l hR h1' h2.2) (g_recv.obj (ci := 7) rfl (by decide) (show 79 < N by omega)) rfl ⟨⟨by decide, by decide⟩, by decide, by decide⟩ (lb rfl) ?_
    rw [decide_eq_false h2.1]
    refine w_if_eq (tgt := 138) dX7_readsRule_125 (by decide) (fun c_125 => ?_) (fun c_125 => absurd (rfl) c_125)
    exact w_lv [1, 0] (b138 x _ J' e h1' h2 (h3 0))
  have b66 : ∀ (I' : Nat → Nat → Int32) (J' : Nat → Nat → Int64) (e : Nat), I' 79 28 = nI e → e ≠ 0 ∧ e ≤ 5 → rsQ I J tx L I' J' Q → g_Wp E l mX7_readsRule { frames := 6, cells := 0, slots := 0, locals := 127 } (g_Fin E (g_rk (fun I' J' => rsQ I J tx L I' J' Q) R D N ex) 0 0) 0 0 66 [(0, .ref 79)] [] (I', J', R, D, N, ex) := by
    intro I' J' e h1 h2 h3
    refine w_aload_n dX7_readsRule_66 rfl ?_
    refine y_callV dX7_readsRule_67 lk_X7_161 [] rfl (m_isGood E l hR h1 h2.2) (g_recv.obj (ci := 7) rfl (by decide) (show 79 < N by omega)) rfl ⟨⟨by decide, by decide⟩, by decide, by decide⟩ (lb rfl) ?_
    rw [decide_eq_false h2.1]
    refine w_if_ne (tgt := 74) dX7_readsRule_70 (by decide) (fun c_70 => absurd (rfl) c_70) (fun c_70 => ?_)
    refine w_vret dX7_readsRule_73 rfl ⟨_, _, rfl, h3, rfl⟩ (by decide) (by decide)
  have b43 : ∀ (I' : Nat → Nat → Int32) (J' : Nat → Nat → Int64) (e : Nat), I' 79 28 = nI e → e ≠ 0 ∧ e ≤ 5 → I' 79 15 = nI P.ru.length → rsQ I J tx L I' J' Q → g_Wp E l mX7_readsRule { frames := 6, cells := 0, slots := 0, locals := 127 } (g_Fin E (g_rk (fun I' J' => rsQ I J tx L I' J' Q) R D N ex) 0 0) 0 0 43 [(0, .ref 79)] [] (I', J', R, D, N, ex) := by
    intro I' J' e h1 h2 h4 h3
    refine w_aload_n dX7_readsRule_43 rfl ?_
    refine w_aload_n dX7_readsRule_44 rfl ?_
    refine w_aload_n dX7_readsRule_45 rfl ?_
    refine x_getj (ci := 7) (k := 33) dX7_readsRule_46 rfl (by decide) (by decide) (by omega) fl_X7_122 rfl ?_
    refine y_callV dX7_readsRule_49 lk_X7_207 [.long (J' 79 33)] rfl (m_find E l hR h4 h6 _) (g_recv.obj (ci := 7) rfl (by decide) (show 79 < N by omega)) rfl ⟨⟨by decide, by decide⟩, by decide, by decide⟩ (lb rfl) ?_
    refine w_iconst (v := (-1)) dX7_readsRule_52 (by decide) ?_
    refine w_icmp_ne (tgt := 60) dX7_readsRule_53 (by decide) (fun c_53 => ?_) (fun c_53 => ?_)
    · refine w_iconst (v := 0) dX7_readsRule_60 (by decide) ?_
      refine w_iconst (v := 2) dX7_readsRule_61 (by decide) ?_
      refine y_callV dX7_readsRule_62 lk_X7_183 [.int _, .int 2] rfl (m_must_b E l hR h1 h2 _ _) (g_recv.obj (ci := 7) rfl (by decide) (show 79 < N by omega)) rfl ⟨⟨by decide, by decide⟩, by decide, by decide⟩ (lb rfl) ?_
      refine w_pop dX7_readsRule_65 rfl ?_
      exact w_lv [0] (b66 I' J' e h1 h2 h3)
    · refine w_iconst (v := 1) dX7_readsRule_56 (by decide) ?_
      refine w_goto (tgt := 61) dX7_readsRule_57 (by decide) ?_
      refine w_iconst (v := 2) dX7_readsRule_61 (by decide) ?_
      refine y_callV dX7_readsRule_62 lk_X7_183 [.int _, .int 2] rfl (m_must_b E l hR h1 h2 _ _) (g_recv.obj (ci := 7) rfl (by decide) (show 79 < N by omega)) rfl ⟨⟨by decide, by decide⟩, by decide, by decide⟩ (lb rfl) ?_
      refine w_pop dX7_readsRule_65 rfl ?_
      exact w_lv [0] (b66 I' J' e h1 h2 h3)
  have b20 : ∀ (I' : Nat → Nat → Int32) (J' : Nat → Nat → Int64) (e : Nat), I' 79 28 = nI e → e ≠ 0 ∧ e ≤ 5 → I' 79 15 = nI P.ru.length → rsQ I J tx L I' J' Q → g_Wp E l mX7_readsRule { frames := 6, cells := 0, slots := 0, locals := 127 } (g_Fin E (g_rk (fun I' J' => rsQ I J tx L I' J' Q) R D N ex) 0 0) 0 0 20 [(0, .ref 79)] [] (I', J', R, D, N, ex) := by
    intro I' J' e h1 h2 h4 h3
    refine w_aload_n dX7_readsRule_20 rfl ?_
    refine z_callV dX7_readsRule_21 lk_X7_204 [] rfl (m_goOn_b E l hR h1 h2) (g_recv.obj (ci := 7) rfl (by decide) (show 79 < N by omega)) rfl ⟨⟨by decide, by decide⟩, by decide, by decide⟩ (lb rfl) ?_
    refine w_aload_n dX7_readsRule_24 rfl ?_
    refine w_aload_n dX7_readsRule_25 rfl ?_
    refine x_geti (ci := 7) (k := 26) dX7_readsRule_26 rfl (by decide) (by decide) (by omega) fl_X7_143 rfl ?_
    refine w_iconst (v := 1) dX7_readsRule_29 (by decide) ?_
    refine w_icmp_ne (tgt := 37) dX7_readsRule_30 (by decide) (fun c_30 => ?_) (fun c_30 => ?_)
    · refine w_iconst (v := 0) dX7_readsRule_37 (by decide) ?_
      refine w_iconst (v := 1) dX7_readsRule_38 (by decide) ?_
      refine y_callV dX7_readsRule_39 lk_X7_183 [.int _, .int 1] rfl (m_must_b E l hR h1 h2 _ _) (g_recv.obj (ci := 7) rfl (by decide) (show 79 < N by omega)) rfl ⟨⟨by decide, by decide⟩, by decide, by decide⟩ (lb rfl) ?_
      refine w_pop dX7_readsRule_42 rfl ?_
      exact w_lv [0] (b43 I' J' e h1 h2 h4 h3)
    · refine w_iconst (v := 1) dX7_readsRule_33 (by decide) ?_
      refine w_goto (tgt := 38) dX7_readsRule_34 (by decide) ?_
      refine w_iconst (v := 1) dX7_readsRule_38 (by decide) ?_
      refine y_callV dX7_readsRule_39 lk_X7_183 [.int _, .int 1] rfl (m_must_b E l hR h1 h2 _ _) (g_recv.obj (ci := 7) rfl (by decide) (show 79 < N by omega)) rfl ⟨⟨by decide, by decide⟩, by decide, by decide⟩ (lb rfl) ?_
      refine w_pop dX7_readsRule_42 rfl ?_
      exact w_lv [0] (b43 I' J' e h1 h2 h4 h3)
  have s146 : ∀ (I4 : Nat → Nat → Int32) (J4 : Nat → Nat → Int64) (al : List Nat) (kd e : Nat), P.ru.length < 6 → frW I I4 J J4 → I4 79 28 = nI 0 → mtC I4 J4 tx L e → tdC I4 al → kd ≤ 4 → al.length ≤ 8 → (∀ x ∈ al, x ≤ 60) → (∀ k (h : k < P.ru.length), mrC I4 k (P.ru[k].2.1) (P.ru[k].2.2)) → (∀ k, k < P.ru.length → J4 92 k = lN (mw (P.nm k))) → J4 92 P.ru.length = lN (mw (cdT tx L (tkE tx L a))) → I4 79 15 = nI P.ru.length → I4 79 16 = I 79 16 → I4 80 = I 80 → (∀ k, 30 ≤ k → k ≤ 32 → I4 79 k = I 79 k) → Q = .inr ((P.ru ++ [(cdT tx L (tkE tx L a), kd, al)], P.2), e) → g_Wp E l mX7_readsRule { frames := 6, cells := 0, slots := 0, locals := 127 } (g_Fin E (g_rk (fun I' J' => rsQ I J tx L I' J' Q) R D N ex) 0 0) 0 0 146 [(1, .int (nI kd)), (0, .ref 79)] [] (I4, J4, R, D, N, ex) := by
    intro I4 J4 al kd e hl6 f1 g1 g2 g3 hk h8 h60 gm gJ gJn g15 g16 g80 g30 hQ
    have s171 : ∀ (f k : Nat) (I' : Nat → Nat → Int32), k + f = al.length → (∀ o, o ≠ 85 → o ≠ 86 → o ≠ 87 → I' o = I4 o) → I' 85 = (fun j => if j = P.ru.length then nI kd else I4 85 j) → I' 86 = (fun j => if j = P.ru.length then nI al.length else I4 86 j) → (∀ j, (j < 8 * P.ru.length) → I' 87 j = I4 87 j) → (∀ j (h : j < al.length), j < k → I' 87 (8 * P.ru.length + j) = nI al[j]) → g_Wp E l mX7_readsRule { frames := 6, cells := 0, slots := 0, locals := 127 } (g_Fin E (g_rk (fun I' J' => rsQ I J tx L I' J' Q) R D N ex) 0 0) 0 0 171 [(2, .int (nI k)), (0, .ref 79), (1, .int (nI kd))] [] (I', J4, R, D, N, ex) := by
      intro f
      induction f with
      | zero =>
        intro k I' hk0 q1 q2 q3 q4 q5
        obtain rfl : k = al.length := by omega
        have q79 : ∀ j, I' 79 j = I4 79 j := fun j => by rw [q1 79 (by decide) (by decide) (by decide)]
        have fin : rsQ I J tx L (up2 I' 79 15 (nI (P.ru.length + 1))) J4 Q := by
          rw [hQ]
          have hlen : (P.ru ++ [(cdT tx L (tkE tx L a), kd, al)]).length = P.ru.length + 1 := by rw [List.length_append]; rfl
          have u79 : ∀ j, j ≠ 15 → up2 I' 79 15 (nI (P.ru.length + 1)) 79 j = I4 79 j := fun j hj => by rw [up2_n _ _ (by simp [hj])]; exact q79 j
          have uo : ∀ o, o ≠ 79 → up2 I' 79 15 (nI (P.ru.length + 1)) o = I' o := fun o ho => by funext j; exact up2_n _ _ (by simp [ho])
          refine ⟨⟨fun o a b c d => ?_, fun k a b c => ?_, f1.2.2⟩, by rw [u79 28 (by decide)]; exact g1, ⟨by rw [u79 24 (by decide)]; exact g2.1, by rw [u79 25 (by decide)]; exact g2.2.1, by rw [u79 26 (by decide)]; exact g2.2.2.1, g2.2.2.2.1, fun z => by rw [u79 27 (by decide)]; exact g2.2.2.2.2 z⟩, by rw [up2_s]; exact congrArg nI hlen.symm, fun k hk' => ?_, by rw [u79 16 (by decide), g16]; exact hp.2.2.1, ?_, by rw [u79 30 (by decide), g30 30 (by decide) (by decide)]; exact hp.2.2.2.2.1, by rw [u79 31 (by decide), g30 31 (by decide) (by decide)]; exact hp.2.2.2.2.2.1, by rw [u79 32 (by decide), g30 32 (by decide) (by decide)]; exact hp.2.2.2.2.2.2⟩
          · rw [uo o a, q1 o (by omega) (by omega) (by omega)]; exact f1.1 o a b c d
          · rw [u79 k (by omega)]; exact f1.2.1 k a b c
          · have hk2 : k < P.ru.length + 1 := by rw [← hlen]; exact hk'
            by_cases ek : k = P.ru.length
            · subst ek
              have e9 : (P.ru ++ [(cdT tx L (tkE tx L a), kd, al)])[P.ru.length]'hk' = (cdT tx L (tkE tx L a), kd, al) := by rw [List.getElem_append_right (by omega)]; simp
              have e8 : PS.nm (P.ru ++ [(cdT tx L (tkE tx L a), kd, al)], P.2) P.ru.length = cdT tx L (tkE tx L a) := by rw [PS.nm_e _ hk']; exact congrArg Prod.fst e9
              refine ⟨?_, by rw [e8]; exact gJn⟩
              show mrC _ _ ((P.ru ++ [(cdT tx L (tkE tx L a), kd, al)])[P.ru.length]'hk').2.1 ((P.ru ++ [(cdT tx L (tkE tx L a), kd, al)])[P.ru.length]'hk').2.2
              rw [e9]
              exact ⟨by rw [uo 85 (by decide), q2]; exact if_pos rfl, hk, by rw [uo 86 (by decide), q3]; exact if_pos rfl, h8, fun j hj => by rw [uo 87 (by decide)]; exact q5 j hj hj, h60⟩
            · have hkl : k < P.ru.length := by omega
              have e9 : (P.ru ++ [(cdT tx L (tkE tx L a), kd, al)])[k]'hk' = P.ru[k] := List.getElem_append_left hkl
              have e8 : PS.nm (P.ru ++ [(cdT tx L (tkE tx L a), kd, al)], P.2) k = P.nm k := by rw [PS.nm_e _ hk', PS.nm_e _ hkl]; exact congrArg Prod.fst e9
              refine ⟨?_, by rw [e8]; exact gJ k hkl⟩
              show mrC _ _ ((P.ru ++ [(cdT tx L (tkE tx L a), kd, al)])[k]'hk').2.1 ((P.ru ++ [(cdT tx L (tkE tx L a), kd, al)])[k]'hk').2.2
              rw [e9]
              obtain ⟨w1, w2, w3, w4, w5, w6⟩ := gm k hkl
              exact ⟨by rw [uo 85 (by decide), q2]; exact (if_neg ek).trans w1, w2, by rw [uo 86 (by decide), q3]; exact (if_neg ek).trans w3, w4, fun j hj => by rw [uo 87 (by decide), q4 _ (by omega)]; exact w5 j hj, w6⟩
          · exact hp.2.2.2.1.fr (by rw [uo 80 (by decide), q1 80 (by decide) (by decide) (by decide), g80])
        refine w_iload_n dX7_readsRule_171 rfl ?_
        refine w_aload_n dX7_readsRule_172 rfl ?_
        refine x_geti (ci := 7) (k := 35) dX7_readsRule_173 rfl (by decide) (by decide) (by omega) fl_X7_180 rfl ?_
        rw [q79, g3.1]
        refine w_icmp_ge (tgt := 205) dX7_readsRule_176 (by decide) (fun c_176 => ?_) (fun c_176 => absurd ((nI_le (by omega) (by omega))) c_176)
        refine w_aload_n dX7_readsRule_205 rfl ?_
        refine w_dup dX7_readsRule_206 rfl ?_
        refine x_geti (ci := 7) (k := 15) dX7_readsRule_207 rfl (by decide) (by decide) (by omega) fl_X7_98 rfl ?_
        rw [q79, g15]
        refine w_iconst (v := 1) dX7_readsRule_210 (by decide) ?_
        refine w_iadd dX7_readsRule_211 ?_
        rw [nI_1]
        refine x_puti (ci := 7) (k := 15) dX7_readsRule_212 rfl (by decide) (by decide) (by omega) fl_X7_98 rfl rfl ?_
        refine w_vret dX7_readsRule_215 rfl ⟨_, _, rfl, fin, rfl⟩ (by decide) (by decide)
      | succ f ih =>
        intro k I' hk0 q1 q2 q3 q4 q5
        have hkl : k < al.length := by omega
        have q79 : ∀ j, I' 79 j = I4 79 j := fun j => by rw [q1 79 (by decide) (by decide) (by decide)]
        refine w_iload_n dX7_readsRule_171 rfl ?_
        refine w_aload_n dX7_readsRule_172 rfl ?_
        refine x_geti (ci := 7) (k := 35) dX7_readsRule_173 rfl (by decide) (by decide) (by omega) fl_X7_180 rfl ?_
        rw [q79, g3.1]
        refine w_icmp_ge (tgt := 205) dX7_readsRule_176 (by decide) (fun c_176 => absurd c_176 ((nI_ge (by omega) (by omega)))) (fun c_176 => ?_)
        refine w_aload_n dX7_readsRule_179 rfl ?_
        refine x_getr (ci := 7) (k := 8) (a := 87) dX7_readsRule_180 rfl (by decide) (by decide) (by omega) fl_X7_32 (Or.inr ⟨_, rfl⟩) hR.2.2.2.2.2.2.2.2.1 ?_
        refine w_bipush (v := 8) dX7_readsRule_183 (by decide) ?_
        refine w_aload_n dX7_readsRule_185 rfl ?_
        refine x_geti (ci := 7) (k := 15) dX7_readsRule_186 rfl (by decide) (by decide) (by omega) fl_X7_98 rfl ?_
        rw [q79, g15]
        refine w_imul dX7_readsRule_189 ?_
        refine w_st (show _ = [.int (nI (8 * P.ru.length)), .ref 87] from by rw [← pk_mul]; rfl) ?_
        refine w_iload_n dX7_readsRule_190 rfl ?_
        refine w_iadd dX7_readsRule_191 ?_
        rw [nI_add]
        refine w_aload_n dX7_readsRule_192 rfl ?_
        refine x_getr (ci := 7) (k := 34) (a := 97) dX7_readsRule_193 rfl (by decide) (by decide) (by omega) fl_X7_63 (Or.inr ⟨_, rfl⟩) hR.2.2.2.2.2.2.2.2.2.2.2.2.2.2.2.2.2.2.1 ?_
        refine w_iload_n dX7_readsRule_196 rfl ?_
        refine x_iald (j := k) dX7_readsRule_197 rfl (by omega) rfl (show k < 8 by omega) ?_
        rw [show I' 97 k = nI al[k] from by rw [q1 97 (by decide) (by decide) (by decide)]; exact g3.2 k hkl]
        refine x_iast (j := 8 * P.ru.length + k) dX7_readsRule_198 rfl (by omega) rfl (show 8 * P.ru.length + k < 48 by omega) ?_
        refine w_iinc (v := nI (k + 1)) dX7_readsRule_199 rfl (nI_inc _) (by decide) rfl ?_
        refine w_goto (tgt := 171) dX7_readsRule_202 (by decide) ?_
        refine w_lv [2, 0, 1] (ih (k + 1) _ (by omega) (fun o x y z => by rw [← q1 o x y z]; funext j; exact up2_n _ _ (by simp [z])) (by rw [← q2]; funext j; exact up2_n _ _ (by simp)) (by rw [← q3]; funext j; exact up2_n _ _ (by simp)) (fun j hj => by rw [up2_n _ _ (by omega)]; exact q4 j hj) (fun j hj hjk => ?_))
        rcases Nat.lt_or_ge j k with z | z
        · rw [up2_n _ _ (by omega)]; exact q5 j hj z
        · obtain rfl : j = k := by omega
          exact up2_s ..
    refine w_aload_n dX7_readsRule_146 rfl ?_
    refine x_getr (ci := 7) (k := 6) (a := 85) dX7_readsRule_147 rfl (by decide) (by decide) (by omega) fl_X7_26 (Or.inr ⟨_, rfl⟩) hR.2.2.2.2.2.2.1 ?_
    refine w_aload_n dX7_readsRule_150 rfl ?_
    refine x_geti (ci := 7) (k := 15) dX7_readsRule_151 rfl (by decide) (by decide) (by omega) fl_X7_98 rfl ?_
    rw [g15]
    refine w_iload_n dX7_readsRule_154 rfl ?_
    refine x_iast (j := P.ru.length) dX7_readsRule_155 rfl (by omega) rfl (show P.ru.length < 6 from hl6) ?_
    refine w_aload_n dX7_readsRule_156 rfl ?_
    refine x_getr (ci := 7) (k := 7) (a := 86) dX7_readsRule_157 rfl (by decide) (by decide) (by omega) fl_X7_29 (Or.inr ⟨_, rfl⟩) hR.2.2.2.2.2.2.2.1 ?_
    refine w_aload_n dX7_readsRule_160 rfl ?_
    refine x_geti (ci := 7) (k := 15) dX7_readsRule_161 rfl (by decide) (by decide) (by omega) fl_X7_98 rfl ?_
    refine w_st (show _ = [.int (nI P.ru.length), .ref 86] from by rw [up2_n _ _ (by simp), g15]) ?_
    refine w_aload_n dX7_readsRule_164 rfl ?_
    refine x_geti (ci := 7) (k := 35) dX7_readsRule_165 rfl (by decide) (by decide) (by omega) fl_X7_180 rfl ?_
    refine w_st (show _ = [.int (nI al.length), .int (nI P.ru.length), .ref 86] from by rw [up2_n _ _ (by simp), g3.1]) ?_
    refine x_iast (j := P.ru.length) dX7_readsRule_168 rfl (by omega) rfl (show P.ru.length < 6 from hl6) ?_
    refine w_iconst (v := 0) dX7_readsRule_169 (by decide) ?_
    refine w_istore_n dX7_readsRule_170 (by decide) rfl ?_
    exact w_lv [2, 0, 1] (s171 al.length 0 _ (by omega) (fun o x y z => by funext j; rw [up2_n _ _ (by simp [y]), up2_n _ _ (by simp [x])]) (by funext j; rw [up2_n _ _ (by simp)]; show (if (85 : Nat) = 85 ∧ j = P.ru.length then _ else _) = _; simp) (by funext j; show (if (86 : Nat) = 86 ∧ j = P.ru.length then _ else up2 I4 85 P.ru.length (nI kd) 86 j) = _; rw [up2_n _ _ (by simp)]; simp) (fun j hj => by rw [up2_n _ _ (by simp), up2_n _ _ (by simp)]) (fun j hj hjk => absurd hjk (Nat.not_lt_zero j)))
  by_cases c6 : 6 ≤ P.ru.length
  · rw [if_pos c6] at hq
    refine w_aload_n dX7_readsRule_0 rfl ?_
    refine w_aload_n dX7_readsRule_1 rfl ?_
    refine x_geti (ci := 7) (k := 15) dX7_readsRule_2 rfl (by decide) (by decide) (by omega) fl_X7_98 rfl ?_
    rw [hp.1]
    refine w_bipush (v := 6) dX7_readsRule_5 (by decide) ?_
    refine w_icmp_ge (tgt := 14) dX7_readsRule_7 (by decide) (fun c_7 => ?_) (fun c_7 => absurd ((nI_le (a := 6) (by omega) (by omega))) c_7)
    refine w_iconst (v := 0) dX7_readsRule_14 (by decide) ?_
    refine w_iconst (v := 5) dX7_readsRule_15 (by decide) ?_
    refine y_callV dX7_readsRule_16 lk_X7_183 [.int 0, .int (nI 5)] rfl (m_must_f E l hR hg (k := 5) (by decide)) (g_recv.obj (ci := 7) rfl (by decide) (show 79 < N by omega)) rfl ⟨⟨by decide, by decide⟩, by decide, by decide⟩ (lb rfl) ?_
    refine w_pop dX7_readsRule_19 rfl ?_
    exact w_lv [0] (b20 _ J 5 (by rw [up2_n _ _ (by simp), up2_s]) (by decide) (by rw [up2_n _ _ (by simp), up2_n _ _ (by simp)]; exact hp.1) (by rw [← hq]; exact ⟨((frU.refl I J).er _ _).w, by rw [up2_n _ _ (by simp), up2_s], by rw [up2_s]; exact hm.1, (by dsimp only; decide), (by dsimp only; decide)⟩))
  · rw [if_neg c6] at hq
    have hl6 : P.ru.length < 6 := by omega
    have s24 : ∀ (I2 : Nat → Nat → Int32) (J2 : Nat → Nat → Int64), frN I I2 J J2 → mtC I2 J2 tx L (tkE tx L a) → g_Wp E l mX7_readsRule { frames := 6, cells := 0, slots := 0, locals := 127 } (g_Fin E (g_rk (fun I' J' => rsQ I J tx L I' J' Q) R D N ex) 0 0) 0 0 24 [(0, .ref 79)] [] (I2, J2, R, D, N, ex) := by
      intro I2 J2 k1 k2
      have g2 : I2 79 28 = nI 0 := by rw [k1.2.1 28 (by decide)]; exact hg
      have p2 := hp.u k1.u
      have hmk := mtk_le tx L (tkE tx L a)
      have r2 := hr.n k1
      by_cases c1 : isNm tx L (tkE tx L a) = false
      · rw [if_pos c1] at hq
        refine w_aload_n dX7_readsRule_24 rfl ?_
        refine w_aload_n dX7_readsRule_25 rfl ?_
        refine x_geti (ci := 7) (k := 26) dX7_readsRule_26 rfl (by decide) (by decide) (by omega) fl_X7_143 rfl ?_
        rw [k2.2.2.1]
        refine w_iconst (v := 1) dX7_readsRule_29 (by decide) ?_
        refine w_icmp_ne (tgt := 37) dX7_readsRule_30 (by decide) (fun c_30 => ?_) (fun c_30 => absurd c_30 ((fun q => by rw [mtk_1.mp (n_eq (b := 1) q)] at c1; cases c1)))
        refine w_iconst (v := 0) dX7_readsRule_37 (by decide) ?_
        refine w_iconst (v := 1) dX7_readsRule_38 (by decide) ?_
        refine y_callV dX7_readsRule_39 lk_X7_183 [.int 0, .int (nI 1)] rfl (m_must_f E l hR g2 (k := 1) (by decide)) (g_recv.obj (ci := 7) rfl (by decide) (show 79 < N by omega)) rfl ⟨⟨by decide, by decide⟩, by decide, by decide⟩ (lb rfl) ?_
        refine w_pop dX7_readsRule_42 rfl ?_
        exact w_lv [0] (b43 _ J2 1 (by rw [up2_n _ _ (by simp), up2_s]) (by decide) (by rw [up2_n _ _ (by simp), up2_n _ _ (by simp)]; exact p2.1) (by rw [← hq]; exact ⟨(k1.u.er _ _).w, by rw [up2_n _ _ (by simp), up2_s], by rw [up2_s]; exact k2.1, (by dsimp only; decide), (by dsimp only; decide)⟩))
      · rw [if_neg c1] at hq
        have hu : isNm tx L (tkE tx L a) = true := by cases e : isNm tx L (tkE tx L a); exact absurd e c1; rfl
        have hm1 : mtk tx L (tkE tx L a) = 1 := mtk_1.mpr hu
        have hwd := k2.2.2.2.1 hm1
        have hfn := fn_eq hP (cdT_gd hu) (fun k hk => (p2.2.1 k hk).2)
        by_cases cf : fnR P (cdT tx L (tkE tx L a)) ≠ none
        · rw [if_pos cf] at hq
          refine w_aload_n dX7_readsRule_24 rfl ?_
          refine w_aload_n dX7_readsRule_25 rfl ?_
          refine x_geti (ci := 7) (k := 26) dX7_readsRule_26 rfl (by decide) (by decide) (by omega) fl_X7_143 rfl ?_
          rw [k2.2.2.1, hm1]
          refine w_iconst (v := 1) dX7_readsRule_29 (by decide) ?_
          refine w_icmp_ne (tgt := 37) dX7_readsRule_30 (by decide) (fun c_30 => absurd (rfl) c_30) (fun c_30 => ?_)
          refine w_iconst (v := 1) dX7_readsRule_33 (by decide) ?_
          refine w_goto (tgt := 38) dX7_readsRule_34 (by decide) ?_
          refine w_iconst (v := 1) dX7_readsRule_38 (by decide) ?_
          refine y_callV dX7_readsRule_39 lk_X7_183 [.int 1, .int 1] rfl (m_must_t E l hR g2 1) (g_recv.obj (ci := 7) rfl (by decide) (show 79 < N by omega)) rfl ⟨⟨by decide, by decide⟩, by decide, by decide⟩ (lb rfl) ?_
          refine w_pop dX7_readsRule_42 rfl ?_
          refine w_aload_n dX7_readsRule_43 rfl ?_
          refine w_aload_n dX7_readsRule_44 rfl ?_
          refine w_aload_n dX7_readsRule_45 rfl ?_
          refine x_getj (ci := 7) (k := 33) dX7_readsRule_46 rfl (by decide) (by decide) (by omega) fl_X7_122 rfl ?_
          rw [hwd]
          refine y_callV dX7_readsRule_49 lk_X7_207 [.long (lN (mw (cdT tx L (tkE tx L a))))] rfl (m_find E l hR p2.1 h6 _) (g_recv.obj (ci := 7) rfl (by decide) (show 79 < N by omega)) rfl ⟨⟨by decide, by decide⟩, by decide, by decide⟩ (lb rfl) ?_
          rw [hfn]
          refine w_iconst (v := (-1)) dX7_readsRule_52 (by decide) ?_
          refine w_icmp_ne (tgt := 60) dX7_readsRule_53 (by decide) (fun c_53 => ?_) (fun c_53 => absurd c_53 ((fun q => cf (o2i_none q (fun t ht => by have := fnR_lt ht; omega)))))
          refine w_iconst (v := 0) dX7_readsRule_60 (by decide) ?_
          refine w_iconst (v := 2) dX7_readsRule_61 (by decide) ?_
          refine y_callV dX7_readsRule_62 lk_X7_183 [.int 0, .int (nI 2)] rfl (m_must_f E l hR g2 (k := 2) (by decide)) (g_recv.obj (ci := 7) rfl (by decide) (show 79 < N by omega)) rfl ⟨⟨by decide, by decide⟩, by decide, by decide⟩ (lb rfl) ?_
          refine w_pop dX7_readsRule_65 rfl ?_
          exact w_lv [0] (b66 _ J2 2 (by rw [up2_n _ _ (by simp), up2_s]) (by decide) (by rw [← hq]; exact ⟨(k1.u.er _ _).w, by rw [up2_n _ _ (by simp), up2_s], by rw [up2_s]; exact k2.1, (by dsimp only; decide), (by dsimp only; decide)⟩))
        · rw [if_neg cf] at hq
          have hno : fnR P (cdT tx L (tkE tx L a)) = none := by cases e : fnR P (cdT tx L (tkE tx L a)) with
            | none => rfl
            | some t => exact absurd (by rw [e]; exact fun q => by cases q) cf
          have r2b := hr.n k1
          have k2e := k2.2.1
          have p92 : ∀ (J3 : Nat → Nat → Int64), (∀ o k, ¬ (o = 79 ∧ k = 33) → J3 o k = up2 J2 92 P.ru.length (lN (mw (cdT tx L (tkE tx L a)))) o k) → (∀ k, k < P.ru.length → J3 92 k = lN (mw (P.nm k))) ∧ J3 92 P.ru.length = lN (mw (cdT tx L (tkE tx L a))) := fun J3 q => ⟨fun k hk => by rw [q 92 k (by simp), up2_n _ _ (by omega)]; exact (p2.2.1 k hk).2, by rw [q 92 _ (by simp), up2_s]⟩
          have fW : ∀ (I3 : Nat → Nat → Int32) (J3 : Nat → Nat → Int64), frU I2 I3 (up2 J2 92 P.ru.length (lN (mw (cdT tx L (tkE tx L a))))) J3 → frW I I3 J J3 := fun I3 J3 q => (k1.u.w.trans ⟨fun _ _ _ _ _ => rfl, fun _ _ _ _ => rfl, fun o _ b => by funext j; exact up2_n _ _ (by simp [b])⟩).trans q.w
          have s96 : ∀ (I3 : Nat → Nat → Int32) (J3 : Nat → Nat → Int64), frU I2 I3 (up2 J2 92 P.ru.length (lN (mw (cdT tx L (tkE tx L a))))) J3 → I3 79 28 = nI 0 → mtC I3 J3 tx L (tkE tx L (tkE tx L a)) → g_Wp E l mX7_readsRule { frames := 6, cells := 0, slots := 0, locals := 127 } (g_Fin E (g_rk (fun I' J' => rsQ I J tx L I' J' Q) R D N ex) 0 0) 0 0 96 [(1, .int (kdS tx L (tkE tx L (tkE tx L a)))), (0, .ref 79)] [] (I3, J3, R, D, N, ex) := by
            intro I3 J3 k3 g3 k4
            have r3 := r2b.u k3
            by_cases ck : kdS tx L (tkE tx L (tkE tx L a)) = -1
            · rw [if_pos ck] at hq
              refine w_aload_n dX7_readsRule_96 rfl ?_
              refine w_iload_n dX7_readsRule_97 rfl ?_
              refine w_iconst (v := (-1)) dX7_readsRule_98 (by decide) ?_
              refine w_icmp_eq (tgt := 106) dX7_readsRule_99 (by decide) (fun c_99 => ?_) (fun c_99 => absurd (ck) c_99)
              refine w_iconst (v := 0) dX7_readsRule_106 (by decide) ?_
              refine w_iconst (v := 1) dX7_readsRule_107 (by decide) ?_
              refine y_callV dX7_readsRule_108 lk_X7_183 [.int 0, .int (nI 1)] rfl (m_must_f E l hR g3 (k := 1) (by decide)) (g_recv.obj (ci := 7) rfl (by decide) (show 79 < N by omega)) rfl ⟨⟨by decide, by decide⟩, by decide, by decide⟩ (lb rfl) ?_
              refine w_pop dX7_readsRule_111 rfl ?_
              exact w_lv [1, 0] (b112 _ _ J3 1 (by rw [up2_n _ _ (by simp), up2_s]) (by decide) (fun v => by rw [← hq]; exact ⟨fW _ _ ((k3.er _ _).up (by decide) _), by rw [up2_n _ _ (by simp), up2_n _ _ (by simp), up2_s], by rw [up2_n _ _ (by simp), up2_s]; exact k4.1, (by dsimp only; decide), (by dsimp only; decide)⟩))
            · rw [if_neg ck] at hq
              obtain ⟨kk, hkk, ekd⟩ := (kd_le tx L (tkE tx L (tkE tx L a))).resolve_left ck
              rw [ekd] at hq
              have gen : ∀ (I6 : Nat → Nat → Int32) (J6 : Nat → Nat → Int64) (al : List Nat) (e : Nat), frU I2 I6 (up2 J2 92 P.ru.length (lN (mw (cdT tx L (tkE tx L a))))) J6 → I6 79 28 = nI 0 → mtC I6 J6 tx L e → tdC I6 al → al.length ≤ 8 → (∀ x ∈ al, x ≤ 60) → Q = .inr ((P.ru ++ [(cdT tx L (tkE tx L a), kk, al)], P.2), e) → g_Wp E l mX7_readsRule { frames := 6, cells := 0, slots := 0, locals := 127 } (g_Fin E (g_rk (fun I' J' => rsQ I J tx L I' J' Q) R D N ex) 0 0) 0 0 146 [(1, .int (nI kk)), (0, .ref 79)] [] (I6, J6, R, D, N, ex) := by
                intro I6 J6 al e q1 q2 q3 q4 q5 q6 q7
                have f9 := k1.u.trans (show frU I2 I6 J2 J2 from ⟨q1.1, q1.2.1, fun _ _ _ => rfl⟩)
                exact s146 I6 J6 al kk e hl6 (fW _ _ q1) q2 q3 q4 hkk q5 q6 (fun k hk => (hp.2.1 k hk).1.fr (fun o a b => f9.1 o (by omega) (by omega))) (p92 J6 q1.2.2).1 (p92 J6 q1.2.2).2 (by rw [f9.2.1 15 (by decide) (by decide)]; exact hp.1) (f9.2.1 16 (by decide) (by decide)) (f9.1 80 (by decide) (by decide)) (fun k a b => f9.2.1 k (by omega) (by omega)) q7
              have g138 : ∀ (I6 : Nat → Nat → Int32) (J6 : Nat → Nat → Int64) (al : List Nat) (e : Nat), frU I2 I6 (up2 J2 92 P.ru.length (lN (mw (cdT tx L (tkE tx L a))))) J6 → I6 79 28 = nI 0 → mtC I6 J6 tx L e → tdC I6 al → al.length ≤ 8 → (∀ x ∈ al, x ≤ 60) → Q = .inr ((P.ru ++ [(cdT tx L (tkE tx L a), kk, al)], P.2), e) → g_Wp E l mX7_readsRule { frames := 6, cells := 0, slots := 0, locals := 127 } (g_Fin E (g_rk (fun I' J' => rsQ I J tx L I' J' Q) R D N ex) 0 0) 0 0 138 [(1, .int (nI kk)), (0, .ref 79)] [] (I6, J6, R, D, N, ex) := by
                intro I6 J6 al e q1 q2 q3 q4 q5 q6 q7
                refine w_aload_n dX7_readsRule_138 rfl ?_
                refine y_callV dX7_readsRule_139 lk_X7_161 [] rfl (m_isGood E l hR q2 (by decide)) (g_recv.obj (ci := 7) rfl (by decide) (show 79 < N by omega)) rfl ⟨⟨by decide, by decide⟩, by decide, by decide⟩ (lb rfl) ?_
                refine w_if_ne (tgt := 146) dX7_readsRule_142 (by decide) (fun c_142 => ?_) (fun c_142 => absurd c_142 ((by decide)))
                exact w_lv [1, 0] (gen I6 J6 al e q1 q2 q3 q4 q5 q6 q7)
              have e28 : ∀ I5 : Nat → Nat → Int32, I5 79 28 = nI 0 → up2 I5 79 35 0 79 28 = nI 0 := fun I5 q => by rw [up2_n _ _ (by simp)]; exact q
              refine w_aload_n dX7_readsRule_96 rfl ?_
              refine w_iload_n dX7_readsRule_97 rfl ?_
              skip
              refine w_iconst (v := (-1)) dX7_readsRule_98 (by decide) ?_
              refine w_icmp_eq (tgt := 106) dX7_readsRule_99 (by decide) (fun c_99 => absurd c_99 (ck)) (fun c_99 => ?_)
              refine w_iconst (v := 1) dX7_readsRule_102 (by decide) ?_
              refine w_goto (tgt := 107) dX7_readsRule_103 (by decide) ?_
              refine w_iconst (v := 1) dX7_readsRule_107 (by decide) ?_
              refine y_callV dX7_readsRule_108 lk_X7_183 [.int 1, .int 1] rfl (m_must_t E l hR g3 1) (g_recv.obj (ci := 7) rfl (by decide) (show 79 < N by omega)) rfl ⟨⟨by decide, by decide⟩, by decide, by decide⟩ (lb rfl) ?_
              refine w_pop dX7_readsRule_111 rfl ?_
              refine w_aload_n dX7_readsRule_112 rfl ?_
              refine k_callV dX7_readsRule_113 lk_X7_204 [] rfl (m_goOn E l hR g3 r3 hb3.2.2.2.1 k4.2.1) (g_recv.obj (ci := 7) rfl (by decide) (show 79 < N by omega)) rfl ⟨⟨by decide, by decide⟩, by decide, by decide⟩ (lb rfl) (fun I5 J5 h_113 => ?_)
              obtain ⟨k5, k6⟩ := h_113
              have g5 : I5 79 28 = nI 0 := (by rw [k5.2.1 28 (by decide)]; exact g3)
              have k7 := k3.trans k5.u
              refine w_aload_n dX7_readsRule_116 rfl ?_
              refine w_iconst (v := 0) dX7_readsRule_117 (by decide) ?_
              refine x_puti (ci := 7) (k := 35) dX7_readsRule_118 rfl (by decide) (by decide) (by omega) fl_X7_180 rfl rfl ?_
              have k8 := k7.up (k := 35) (by decide) 0
              have m8 : mtC (up2 I5 79 35 0) J5 tx L (tkE tx L (tkE tx L (tkE tx L a))) := ⟨by rw [up2_n _ _ (by simp)]; exact k6.1, by rw [up2_n _ _ (by simp)]; exact k6.2.1, by rw [up2_n _ _ (by simp)]; exact k6.2.2.1, k6.2.2.2.1, fun q => by rw [up2_n _ _ (by simp)]; exact k6.2.2.2.2 q⟩
              refine w_aload_n dX7_readsRule_121 rfl ?_
              refine y_callV dX7_readsRule_122 lk_X7_161 [] rfl (m_isGood E l hR (e28 _ g5) (by decide)) (g_recv.obj (ci := 7) rfl (by decide) (show 79 < N by omega)) rfl ⟨⟨by decide, by decide⟩, by decide, by decide⟩ (lb rfl) ?_
              refine w_if_eq (tgt := 138) dX7_readsRule_125 (by decide) (fun c_125 => absurd c_125 ((by decide))) (fun c_125 => ?_)
              refine w_iload_n dX7_readsRule_128 rfl ?_
              rw [ekd]
              refine w_if_ne (tgt := 138) dX7_readsRule_129 (by decide) (fun c_129 => ?_) (fun c_129 => ?_)
              · first | (rw [if_neg c_129, nI_toInt (show kk < 2 ^ 31 by omega), Int.toNat_natCast] at hq; exact w_lv [1, 0] (g138 _ J5 [] _ k8 (e28 _ g5) m8 ⟨up2_s .., fun j hj => absurd hj (Nat.not_lt_zero j)⟩ (by decide) (fun x hx => absurd hx List.not_mem_nil) hq.symm)) | (rcases M with q | q; exact w_lv [1, 0] (b138 _ I6 J6 q.2 a2.1 ⟨a2.2.2.1, a2.2.2.2⟩ (by rw [← hq]; exact ⟨fW _ _ (k8.trans a1), a2⟩)); have hok := amM_ok 9 _ [] q (by decide) rfl hb3.2.2.2.1 (fun x hx => absurd hx List.not_mem_nil) ham; exact w_lv [1, 0] (g138 I6 J6 q.1 q.2 (k8.trans a1) a2.1 a2.2.1 a2.2.2 hok.1.2 (fun x hx => (hok.2.1 x hx).2) hq.symm))
              · refine w_aload_n dX7_readsRule_132 rfl ?_
                refine w_bipush (v := 60) dX7_readsRule_133 (by decide) ?_
                refine k_callV dX7_readsRule_135 lk_X7_214 [.int (nI 60)] rfl (m_readsAmounts E l hR (e28 _ g5) (r2b.u k8) m8 hb3.2.2.2.1 (most := 60) (by decide)) (g_recv.obj (ci := 7) rfl (by decide) (show 79 < N by omega)) rfl ⟨⟨by decide, by decide⟩, by decide, by decide⟩ (lb rfl) (fun I6 J6 h_135 => ?_)
                obtain ⟨a1, a2⟩ := h_135
                have k0 : kk = 0 := n_eq (b := 0) c_129
                subst k0
                rw [if_pos (show nI 0 = 0 from rfl)] at hq
                generalize ham : amM tx L 60 9 (tkE tx L (tkE tx L (tkE tx L a))) [] = M at hq a2
                first | (rw [if_neg c_129, nI_toInt (show kk < 2 ^ 31 by omega), Int.toNat_natCast] at hq; exact w_lv [1, 0] (g138 _ J5 [] _ k8 (e28 _ g5) m8 ⟨up2_s .., fun j hj => absurd hj (Nat.not_lt_zero j)⟩ (by decide) (fun x hx => absurd hx List.not_mem_nil) hq.symm)) | (rcases M with q | q; exact w_lv [1, 0] (b138 _ I6 J6 q.2 a2.1 ⟨a2.2.2.1, a2.2.2.2⟩ (by rw [← hq]; exact ⟨fW _ _ (k8.trans a1), a2⟩)); have hok := amM_ok 9 _ [] q (by decide) rfl hb3.2.2.2.1 (fun x hx => absurd hx List.not_mem_nil) ham; exact w_lv [1, 0] (g138 I6 J6 q.1 q.2 (k8.trans a1) a2.1 a2.2.1 a2.2.2 hok.1.2 (fun x hx => (hok.2.1 x hx).2) hq.symm))
          refine w_aload_n dX7_readsRule_24 rfl ?_
          refine w_aload_n dX7_readsRule_25 rfl ?_
          refine x_geti (ci := 7) (k := 26) dX7_readsRule_26 rfl (by decide) (by decide) (by omega) fl_X7_143 rfl ?_
          rw [k2.2.2.1, hm1]
          refine w_iconst (v := 1) dX7_readsRule_29 (by decide) ?_
          refine w_icmp_ne (tgt := 37) dX7_readsRule_30 (by decide) (fun c_30 => absurd (rfl) c_30) (fun c_30 => ?_)
          refine w_iconst (v := 1) dX7_readsRule_33 (by decide) ?_
          refine w_goto (tgt := 38) dX7_readsRule_34 (by decide) ?_
          refine w_iconst (v := 1) dX7_readsRule_38 (by decide) ?_
          refine y_callV dX7_readsRule_39 lk_X7_183 [.int 1, .int 1] rfl (m_must_t E l hR g2 1) (g_recv.obj (ci := 7) rfl (by decide) (show 79 < N by omega)) rfl ⟨⟨by decide, by decide⟩, by decide, by decide⟩ (lb rfl) ?_
          refine w_pop dX7_readsRule_42 rfl ?_
          refine w_aload_n dX7_readsRule_43 rfl ?_
          refine w_aload_n dX7_readsRule_44 rfl ?_
          refine w_aload_n dX7_readsRule_45 rfl ?_
          refine x_getj (ci := 7) (k := 33) dX7_readsRule_46 rfl (by decide) (by decide) (by omega) fl_X7_122 rfl ?_
          rw [hwd]
          refine y_callV dX7_readsRule_49 lk_X7_207 [.long (lN (mw (cdT tx L (tkE tx L a))))] rfl (m_find E l hR p2.1 h6 _) (g_recv.obj (ci := 7) rfl (by decide) (show 79 < N by omega)) rfl ⟨⟨by decide, by decide⟩, by decide, by decide⟩ (lb rfl) ?_
          rw [hfn, hno]
          refine w_iconst (v := (-1)) dX7_readsRule_52 (by decide) ?_
          refine w_icmp_ne (tgt := 60) dX7_readsRule_53 (by decide) (fun c_53 => absurd ((show o2i none = -1 from rfl)) c_53) (fun c_53 => ?_)
          refine w_iconst (v := 1) dX7_readsRule_56 (by decide) ?_
          refine w_goto (tgt := 61) dX7_readsRule_57 (by decide) ?_
          refine w_iconst (v := 2) dX7_readsRule_61 (by decide) ?_
          refine y_callV dX7_readsRule_62 lk_X7_183 [.int 1, .int 2] rfl (m_must_t E l hR g2 2) (g_recv.obj (ci := 7) rfl (by decide) (show 79 < N by omega)) rfl ⟨⟨by decide, by decide⟩, by decide, by decide⟩ (lb rfl) ?_
          refine w_pop dX7_readsRule_65 rfl ?_
          refine w_aload_n dX7_readsRule_66 rfl ?_
          refine y_callV dX7_readsRule_67 lk_X7_161 [] rfl (m_isGood E l hR g2 (by decide)) (g_recv.obj (ci := 7) rfl (by decide) (show 79 < N by omega)) rfl ⟨⟨by decide, by decide⟩, by decide, by decide⟩ (lb rfl) ?_
          refine w_if_ne (tgt := 74) dX7_readsRule_70 (by decide) (fun c_70 => ?_) (fun c_70 => absurd c_70 ((by decide)))
          refine w_aload_n dX7_readsRule_74 rfl ?_
          refine x_getr (ci := 7) (k := 13) (a := 92) dX7_readsRule_75 rfl (by decide) (by decide) (by omega) fl_X7_47 (Or.inr ⟨_, rfl⟩) hR.2.2.2.2.2.2.2.2.2.2.2.2.2.1 ?_
          refine w_aload_n dX7_readsRule_78 rfl ?_
          refine x_geti (ci := 7) (k := 15) dX7_readsRule_79 rfl (by decide) (by decide) (by omega) fl_X7_98 rfl ?_
          rw [p2.1]
          refine w_aload_n dX7_readsRule_82 rfl ?_
          refine x_getj (ci := 7) (k := 33) dX7_readsRule_83 rfl (by decide) (by decide) (by omega) fl_X7_122 rfl ?_
          rw [hwd]
          refine x_last (j := P.ru.length) dX7_readsRule_86 rfl (by omega) rfl (show P.ru.length < 6 from hl6) ?_
          refine w_aload_n dX7_readsRule_87 rfl ?_
          refine k_callV dX7_readsRule_88 lk_X7_168 [] rfl (m_nextToken E l hR r2b hb2.2.2.2.1 k2e) (g_recv.obj (ci := 7) rfl (by decide) (show 79 < N by omega)) rfl ⟨⟨by decide, by decide⟩, by decide, by decide⟩ (lb rfl) (fun I3 J3 h_88 => ?_)
          obtain ⟨k3, k4⟩ := h_88
          have g3 : I3 79 28 = nI 0 := (by rw [k3.2.1 28 (by decide)]; exact g2)
          refine w_aload_n dX7_readsRule_91 rfl ?_
          refine y_callV dX7_readsRule_92 lk_X7_211 [] rfl (m_kindHere E l hR g3 (r2b.n k3) k4 hb2.2.2.2.1) (g_recv.obj (ci := 7) rfl (by decide) (show 79 < N by omega)) rfl ⟨⟨by decide, by decide⟩, by decide, by decide⟩ (lb rfl) ?_
          refine w_istore_n dX7_readsRule_95 (by decide) rfl ?_
          exact w_lv [1, 0] (s96 I3 J3 k3.u g3 k4)
    refine w_aload_n dX7_readsRule_0 rfl ?_
    refine w_aload_n dX7_readsRule_1 rfl ?_
    refine x_geti (ci := 7) (k := 15) dX7_readsRule_2 rfl (by decide) (by decide) (by omega) fl_X7_98 rfl ?_
    rw [hp.1]
    refine w_bipush (v := 6) dX7_readsRule_5 (by decide) ?_
    refine w_icmp_ge (tgt := 14) dX7_readsRule_7 (by decide) (fun c_7 => absurd c_7 ((nI_ge (a := P.ru.length) (b := 6) (by omega) (by omega)))) (fun c_7 => ?_)
    refine w_iconst (v := 1) dX7_readsRule_10 (by decide) ?_
    refine w_goto (tgt := 15) dX7_readsRule_11 (by decide) ?_
    refine w_iconst (v := 5) dX7_readsRule_15 (by decide) ?_
    refine y_callV dX7_readsRule_16 lk_X7_183 [.int 1, .int 5] rfl (m_must_t E l hR hg 5) (g_recv.obj (ci := 7) rfl (by decide) (show 79 < N by omega)) rfl ⟨⟨by decide, by decide⟩, by decide, by decide⟩ (lb rfl) ?_
    refine w_pop dX7_readsRule_19 rfl ?_
    refine w_aload_n dX7_readsRule_20 rfl ?_
    refine k_callV dX7_readsRule_21 lk_X7_204 [] rfl (m_goOn E l hR hg hr hb.2.2.2.1 hm.2.1) (g_recv.obj (ci := 7) rfl (by decide) (show 79 < N by omega)) rfl ⟨⟨by decide, by decide⟩, by decide, by decide⟩ (lb rfl) (fun I2 J2 h_21 => ?_)
    obtain ⟨k1, k2⟩ := h_21
    exact w_lv [0] (s24 I2 J2 k1 k2)
end MB
