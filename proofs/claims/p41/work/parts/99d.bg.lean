/-! the law's text, whole; begins -/
theorem lk.cg {R R' : Nat → Nat → Option Nat} {N : Nat} {sw : Bool} (h : lk R N sw) (e : ∀ o, o < 79 → R' o = R o) : lk R' N sw := by
  have hg := gm_b sw
  have hd := dg_b sw
  have es : ∀ {s : Nat}, s < 78 → isS R N s → isS R' N s := fun hs h => ⟨h.1, h.2.1, h.2.2.1, by rw [e _ (by omega)]; exact h.2.2.2⟩
  have er : ∀ {s : Nat}, s < 78 → isR R N s → isR R' N s := fun hs h => ⟨h.1, h.2.1, h.2.2.1, h.2.2.2.1, by rw [e _ (by omega)]; exact h.2.2.2.2.1, by rw [e _ (by omega)]; exact h.2.2.2.2.2⟩
  have eg : ∀ {g : Nat}, g = 1 ∨ g = 25 → isG R N g → isG R' N g := fun hg h => ⟨h.1, h.2.1, h.2.2.1, by rw [e _ (by omega)]; exact h.2.2.2.1, by rw [e _ (by omega)]; exact h.2.2.2.2.1, es (by omega) h.2.2.2.2.2.1, fun k hk => ⟨by rw [e _ (by omega)]; exact (h.2.2.2.2.2.2 k hk).1, er (by omega) (h.2.2.2.2.2.2 k hk).2⟩⟩
  obtain ⟨h1, h2, h3, h4, h5, h6, h7, h8, h9, h10, h11, h12, h13, h14, h15, h16, h17⟩ := h
  refine ⟨eg (by omega) h1, eg (by omega) h2, ⟨h3.1, ?_, ?_, ?_⟩, ⟨h4.1, ?_, fun i hi => ⟨?_, es (by omega) (h4.2.2 i hi).2⟩⟩, ?_, ?_, ?_, ?_, ?_, ?_, ?_, ?_, ?_, ?_, es (by decide) h15, es (by decide) h16, h17⟩
  · rw [e _ (by decide)]; exact h3.2.1
  · rw [e _ (by decide)]; exact h3.2.2.1
  · rw [e _ (by decide)]; exact h3.2.2.2
  · rw [e _ (by decide)]; exact h4.2.1
  · rw [e _ (by decide)]; exact (h4.2.2 i hi).1
  · rw [e _ (by decide)]; exact h5
  · rw [e _ (by decide)]; exact h6
  · rw [e _ (by decide)]; exact h7
  · rw [e _ (by decide)]; exact h8
  · rw [e _ (by decide)]; exact h9
  · rw [e _ (by decide)]; exact h10
  · rw [e _ (by decide)]; exact h11
  · rw [e _ (by decide)]; exact h12
  · rw [e _ (by decide)]; exact h13
  · rw [e _ (by decide)]; exact h14
/-- the parts of the text -/
def ruT (E : GE) : Nat → List Nat
  | 0 => []
  | k + 1 => ruT E k ++ ruL E k
def hpL (E : GE) (m k : Nat) : List Nat := wHe ++ (32 :: ([97 + pkV E (50 + 2 * k) m] ++ (32 :: (dgl (pkV E (51 + 2 * k) 10) ++ [59]))))
def hpT (E : GE) (m : Nat) : Nat → List Nat
  | 0 => []
  | k + 1 => hpT E m k ++ hpL E m k
def shT (E : GE) : List Nat := if pkV E 2 2 = 0 then wSh ++ (amsT [1 + pkV E 3 3, 4 + pkV E 4 3] ++ [59]) else []
def paT (E : GE) : List Nat := if pkV E 5 2 = 0 then wPa ++ (32 :: (dgl (pkV E 6 4) ++ [59])) else []
def miT (E : GE) : List Nat := if pkV E 7 2 = 0 then wMi ++ [59] else []
def nRu (E : GE) : Nat := 1 + pkV E 0 3
def nHe (E : GE) : Nat := pkV E 1 4
def allT (E : GE) : List Nat := ruT E (nRu E) ++ hpT E (nRu E) (nHe E) ++ shT E ++ paT E ++ miT E
theorem ruL_len (E : GE) {k : Nat} : (ruL E k).length ≤ 24 := by
  have hl := ww_l
  have ha := amT_len E k (1 + pkV E (11 + 10 * k) 4)
  have hp := pkV_lt E (11 + 10 * k) (n := 4) (by decide)
  unfold ruL ruB kdW
  by_cases h : pkV E (10 + 10 * k) 6 < 4
  · rw [if_pos h]
    repeat' split
    all_goals simp only [List.length_append, List.length_cons, List.length_nil]
    all_goals omega
  · rw [if_neg h]
    simp only [List.length_append, List.length_cons, List.length_nil]
    omega
theorem ruT_len (E : GE) : ∀ k, (ruT E k).length ≤ 24 * k
  | 0 => Nat.le_refl _
  | k + 1 => by have := ruT_len E k; have := ruL_len E (k := k); rw [ruT, List.length_append]; omega
theorem hpT_len (E : GE) (m : Nat) : ∀ k, (hpT E m k).length ≤ 10 * k
  | 0 => Nat.le_refl _
  | k + 1 => by
    have := hpT_len E m k
    have := (dgl_l (pkV E (51 + 2 * k) 10)).2
    have hl := ww_l
    rw [hpT, hpL]
    simp only [List.length_append, List.length_cons, List.length_nil]
    omega
/-- that text is read -/
theorem rule_step {tx : Nat → Nat} {L : Nat} (E : GE) {P : PS} {k : Nat} (hk : k < 3) (hn : nmP P k) : ∃ kk vs, Steps9 tx L (ruL E k) P (P.ru ++ [(97 + k, kk, vs)], P.2) := by
  have hp := pkV_lt E (11 + 10 * k) (n := 4) (by decide)
  have hpos : 0 < (ruL E k).length := by unfold ruL; rw [List.length_append, List.length_cons]; omega
  have hl6 : P.ru.length < 6 := by have := hn.1; omega
  by_cases h : pkV E (10 + 10 * k) 6 < 4
  · have e : ruL E k = wRu ++ (32 :: ([97 + k] ++ (32 :: (kdW (pkV E (10 + 10 * k) 6) ++ [59])))) := by unfold ruL ruB; rw [if_pos h]
    have hw : ∃ kk, kdW (pkV E (10 + 10 * k) 6) = wDi ∧ kk = 1 ∨ kdW (pkV E (10 + 10 * k) 6) = wHa ∧ kk = 2 ∨ kdW (pkV E (10 + 10 * k) 6) = wPo ∧ kk = 3 ∨ kdW (pkV E (10 + 10 * k) 6) = wSq ∧ kk = 4 := by
      unfold kdW
      repeat' split
      · exact ⟨1, Or.inl ⟨rfl, rfl⟩⟩
      · exact ⟨2, Or.inr (Or.inl ⟨rfl, rfl⟩)⟩
      · exact ⟨3, Or.inr (Or.inr (Or.inl ⟨rfl, rfl⟩))⟩
      · exact ⟨4, Or.inr (Or.inr (Or.inr ⟨rfl, rfl⟩))⟩
    obtain ⟨kk, hw⟩ := hw
    refine ⟨kk, [], Steps9.one ?_ hpos⟩
    rw [e]
    exact step_kind (kc_let (by omega)) hw hl6 hn.new
  · have e : ruL E k = wRu ++ (32 :: ([97 + k] ++ (32 :: (wTa ++ (amsT (amV E k (1 + pkV E (11 + 10 * k) 4)) ++ [59]))))) := by unfold ruL ruB; rw [if_neg h]
    obtain ⟨a1, a2⟩ := amV_ok E k (1 + pkV E (11 + 10 * k) 4)
    have a3 := amS_le E k (1 + pkV E (11 + 10 * k) 4)
    have a4 := amV_len E k (1 + pkV E (11 + 10 * k) 4)
    refine ⟨0, amV E k (1 + pkV E (11 + 10 * k) 4), Steps9.one ?_ hpos⟩
    rw [e]
    exact step_take (kc_let (by omega)) hl6 hn.new a1 (fun v hv => by have := a2 v hv; omega) (by omega) (by omega)
theorem rules_read {tx : Nat → Nat} {L : Nat} (E : GE) : ∀ k, k ≤ 3 → ∃ P, Steps9 tx L (ruT E k) PS.nil P ∧ nmP P k ∧ P.2 = PS.nil.2
  | 0, _ => ⟨PS.nil, Steps9.nil _, ⟨rfl, fun k hk => absurd hk (Nat.not_lt_zero k)⟩, rfl⟩
  | k + 1, h => by
    obtain ⟨P, h1, h2, h3⟩ := rules_read (tx := tx) (L := L) E k (by omega)
    obtain ⟨kk, vs, h4⟩ := rule_step (tx := tx) (L := L) E (by omega) h2
    exact ⟨_, h1.app h4, h2.add, h3⟩
theorem heaps_read {tx : Nat → Nat} {L : Nat} (E : GE) {m : Nat} (hm : 0 < m) (hm3 : m ≤ 3) {P : PS} (hn : nmP P m) (hP : P.2 = PS.nil.2) : ∀ k, k ≤ 3 → ∃ Q, Steps9 tx L (hpT E m k) P Q ∧ Q.ru = P.ru ∧ Q.hs.length = k ∧ Q.2.2 = PS.nil.2.2
  | 0, _ => ⟨P, Steps9.nil _, rfl, by show P.2.1.length = 0; rw [hP]; rfl, by rw [hP]⟩
  | k + 1, h => by
    obtain ⟨Q, h1, h2, h3, h4⟩ := heaps_read (tx := tx) (L := L) E hm hm3 hn hP k (by omega)
    have hr := pkV_lt E (50 + 2 * k) hm
    have hv := pkV_lt E (51 + 2 * k) (n := 10) (by decide)
    have hnQ : nmP Q m := ⟨by rw [h2]; exact hn.1, fun j hj => by unfold PS.nm; rw [h2]; exact hn.2 j hj⟩
    have hpos : 0 < (hpL E m k).length := by unfold hpL; rw [List.length_append, List.length_cons]; omega
    refine ⟨_, h1.app (Steps9.one (step_heap (x := 97 + pkV E (50 + 2 * k) m) (v := pkV E (51 + 2 * k) 10) (kc_let (by omega)) (by omega) (by omega) (hnQ.old hr)) hpos), h2, ?_, h4⟩
    show (Q.hs ++ [_]).length = k + 1
    rw [List.length_append, h3]
    rfl
theorem all_read {tx : Nat → Nat} (E : GE) (ht : ∀ i, i < (allT E).length → tx i = (allT E).getD i 0) : ∃ P, rdF tx (allT E).length = .inr P ∧ P.ru.length = nRu E ∧ P.hs.length = nHe E := by
  have hr := pkV_lt E 0 (n := 3) (by decide)
  have hh := pkV_lt E 1 (n := 4) (by decide)
  have e1 : nRu E = 1 + pkV E 0 3 := rfl
  have e2 : nHe E = pkV E 1 4 := rfl
  obtain ⟨P, p1, p2, p3⟩ := rules_read (tx := tx) (L := (allT E).length) E (nRu E) (by omega)
  obtain ⟨Q, q1, q2, q3, q4⟩ := heaps_read (tx := tx) (L := (allT E).length) E (m := nRu E) (by omega) (by omega) p2 p3 (nHe E) (by omega)
  have hsh : ∃ Q2, Steps9 tx (allT E).length (shT E) Q Q2 ∧ Q2.ru = Q.ru ∧ Q2.hs = Q.hs ∧ Q2.hp = false ∧ Q2.mi = false := by
    have c1 : Q.hp = false := by show Q.2.2.2.1 = false; rw [q4]; rfl
    have c2 : Q.mi = false := by show Q.2.2.2.2.1 = false; rw [q4]; rfl
    unfold shT
    split
    · have l1 := pkV_lt E 3 (n := 3) (by decide)
      have l2 := pkV_lt E 4 (n := 3) (by decide)
      refine ⟨_, Steps9.one (step_shared (vs := [1 + pkV E 3 3, 4 + pkV E 4 3]) (by show Q.2.2.2.2.2 = []; rw [q4]; rfl) ⟨by omega, by omega, trivial⟩ (fun v hv => ?_) (by simp) (by simp)) (by rw [List.length_append]; show 0 < 6 + _; omega), rfl, rfl, c1, c2⟩
      rcases List.mem_cons.mp hv with q | q
      · omega
      · rw [List.mem_singleton] at q
        omega
    · exact ⟨Q, Steps9.nil _, rfl, rfl, c1, c2⟩
  obtain ⟨Q2, s1, s2, s3, s4, s5⟩ := hsh
  have hpa : ∃ Q3, Steps9 tx (allT E).length (paT E) Q2 Q3 ∧ Q3.ru = Q2.ru ∧ Q3.hs = Q2.hs ∧ Q3.mi = false := by
    unfold paT
    split
    · have l1 := pkV_lt E 6 (n := 4) (by decide)
      exact ⟨_, Steps9.one (step_passes (v := pkV E 6 4) s4 (by omega)) (by rw [List.length_append]; show 0 < 6 + _; omega), rfl, rfl, s5⟩
    · exact ⟨Q2, Steps9.nil _, rfl, rfl, s5⟩
  obtain ⟨Q3, t1, t2, t3, t4⟩ := hpa
  have hmi : ∃ Q4, Steps9 tx (allT E).length (miT E) Q3 Q4 ∧ Q4.ru = Q3.ru ∧ Q4.hs = Q3.hs := by
    unfold miT
    split
    · exact ⟨_, Steps9.one (step_misere t4) (by rw [List.length_append]; show 0 < 6 + _; omega), rfl, rfl⟩
    · exact ⟨Q3, Steps9.nil _, rfl, rfl⟩
  obtain ⟨Q4, u1, u2, u3⟩ := hmi
  refine ⟨Q4, Steps9.read ((((p1.app q1).app s1).app t1).app u1) ht, ?_, ?_⟩
  · rw [u2, t2, s2, q2]; exact p2.1
  · rw [u3, t3, s3]; exact q3
section SBIN
variable (E : GE) (l : Launch)
variable {I : Nat → Nat → Int32} {J : Nat → Nat → Int64} {R : Nat → Nat → Option Nat} {D : Nat → Nat → UInt64}
set_option maxRecDepth 100000 in
theorem c_SB_init (hz : g_zf I J R D 80) : g_Ct E l mJ4_init_da8c8 2 41 1 16 [.ref 80] (I, J, R, D, 81, true) (g_is none (up2 I 80 1 0, J, up2 R 80 0 (some 81), D, 82, true)) := by
  have c1 : g_Ct E l mJ5_init_d00df 1 20 1 16 [.ref 80, .int 16] (I, J, R, D, 81, true) (g_is none (up2 I 80 1 0, J, up2 R 80 0 (some 81), D, 82, true)) := by
    refine g_Ct.of (by decide +kernel) (lb rfl) ?_
    refine w_aload_n dJ5_init_d00df_0 rfl ?_
    refine w_objInit dJ5_init_d00df_1 lx_J5_3 (by decide) (lb rfl) ?_
    refine w_getsC dJ5_init_d00df_4 fe_java_lang_AbstractStringBuilder_18 ?_
    refine w_if_eq (tgt := 25) dJ5_init_d00df_7 (by decide) (fun c_7 => absurd c_7 ((show ¬ (1 : Int32) = 0 from by decide))) (fun c_7 => ?_)
    refine w_aload_n dJ5_init_d00df_10 rfl ?_
    refine w_iload_n dJ5_init_d00df_11 rfl ?_
    refine x_newarrL (c := 15) (L := 16) dJ5_init_d00df_12 (by decide) rfl (by decide) (by decide) rfl arrc_15 rfl (hz.mono (by decide)) (by decide) (by decide) ?_
    refine x_putr (ci := 7) (k := 0) dJ5_init_d00df_14 rfl (by decide) (by decide) (by decide) fl_J5_15 (Or.inr ⟨_, rfl⟩) (Or.inl rfl) ?_
    refine w_aload_n dJ5_init_d00df_17 rfl ?_
    refine w_iconst (v := 0) dJ5_init_d00df_18 (by decide) ?_
    refine x_putb (ci := 7) (k := 1) dJ5_init_d00df_19 rfl (by decide) (by decide) (by decide) fl_J5_22 rfl rfl ⟨rfl, rfl⟩ ?_
    refine w_goto (tgt := 38) dJ5_init_d00df_22 (by decide) ?_
    refine w_vret dJ5_init_d00df_38 rfl ⟨rfl, rfl⟩ (by decide) (by decide)
  refine g_Ct.of (by decide +kernel) (lb rfl) ?_
  refine w_aload_n dJ4_init_da8c8_0 rfl ?_
  refine w_bipush (v := 16) dJ4_init_da8c8_1 (by decide) ?_
  refine z_callI dJ4_init_da8c8_3 lk_J4_1 [.int 16] rfl c1 rfl ⟨⟨by decide, by decide⟩, by decide, by decide⟩ (lb rfl) ?_
  refine w_vret dJ4_init_da8c8_6 rfl ⟨rfl, rfl⟩ (by decide) (by decide)
theorem sbL_nil (hz : g_zf I J R D 80) : sbL (up2 I 80 1 0) J (up2 R 80 0 (some 81)) D [] 0 := by
  refine ⟨⟨by decide, up2_s .., up2_s .., ?_, Nat.zero_le _, fun i hi => absurd hi (Nat.not_lt_zero i), fun i => ?_⟩, ((hz.mono (by decide)).i (by decide)).r (by decide)⟩
  · rw [up2_n _ _ (by decide), (hz 80 (by decide) 3).1]; rfl
  · rw [up2_n _ _ (by omega), (hz 81 (by decide) i).1]; rfl
end SBIN
