/-! begins: the text is built -/
theorem sy_callS {E : GE} {l : Launch} {μ : GM} {Rm : Room} {Φ : List Frame → Array Value → State → State → Prop} {uc us pc : Nat} {ls : List (Nat × Value)} {st rest : List Value} {idx m f2 q2 mc2 ms2 : Nat} {μ2 : GM} {w : GW} {r : Option Value} {J : Nat → Nat → Int64} {D : Nat → Nat → UInt64} {I : Nat → Nat → Int32} {R : Nat → Nat → Option Nat} {T : List Nat} (hd : decode μ.2.1 pc = .ok (.invokestatic idx, 3)) (hk : g_lkS μ.1.cls idx m μ2) (as : List Value) (hst : st = as.reverse ++ rest) (hC : g_Ct E l μ2 f2 q2 mc2 ms2 as w (sbY r J D I R T)) (hn : as.length = m) (hR8 : (f2 + 1 ≤ Rm.frames ∧ 8 + (μ2.2.2.1 + 11) + q2 ≤ Rm.locals) ∧ uc + mc2 ≤ Rm.cells ∧ us + ms2 ≤ Rm.slots) (hr8 : (rest.map fun v => v.category).sum ≤ 8)
    (kr : ∀ I' R' k', sbL I' J R' D T k' → sbF I I' R R' → g_Wp E l μ Rm Φ (uc + mc2) (us + ms2) (pc + 3) ls (r.toList ++ rest) (I', J, R', D, 82 + k', true)) : g_Wp E l μ Rm Φ uc us pc ls st w :=
  w_callS hd hk hC hst hn hR8 hr8 (fun v' w' h => by obtain ⟨I', R', k', h1, h2, h3, h4⟩ := h; cases h1; subst h2; exact kr I' R' k' h3 h4) (fun X w' h => by obtain ⟨I', R', k', h1, _⟩ := h; cases h1)
section BT
variable (E : GE) (l : Launch)
variable {I : Nat → Nat → Int32} {J : Nat → Nat → Int64} {R : Nat → Nat → Option Nat} {D : Nat → Nat → UInt64} {Φ : List Frame → Array Value → State → State → Prop}
set_option maxRecDepth 100000 in
set_option maxHeartbeats 1000000 in
theorem bg_text (hv : g_lvs E) (hL : E.2.2.2.2.1 ≤ 260) (hz : g_zf I J R D 80)
    (kk : ∀ I' R' k', sbL I' J R' D (allT E) k' → sbF (up2 I 80 1 0) I' (up2 R 80 0 (some 81)) R' → g_Wp E l mL_begins { frames := 10, cells := 100, slots := 11000, locals := 215 } Φ 80 10300 217 [(5, .int (nI (allT E).length)), (4, .int (nI (nHe E))), (3, .int (nI (nRu E))), (2, .ref 80), (0, .ref 0), (1, .ref 1000)] [] (I', J, R', D, 82 + k', true)) :
    g_Wp E l mL_begins { frames := 10, cells := 100, slots := 11000, locals := 215 } Φ 0 0 0 [(0, .ref 0), (1, .ref 1000)] [] (I, J, R, D, 80, true) := by
  have hw := wl_v
  have hl := ww_l
  have hr := pkV_lt E 0 (n := 3) (by decide)
  have hh := pkV_lt E 1 (n := 4) (by decide)
  have hru : nRu E = 1 + pkV E 0 3 := rfl
  have hhe : nHe E = pkV E 1 4 := rfl
  have len1 := ruT_len E (nRu E)
  have len2 := hpT_len E (nRu E) (nHe E)
  have len3 : (shT E).length ≤ 13 := by
    unfold shT
    have h1 := (dgl_l (1 + pkV E 3 3)).2
    have h2 := (dgl_l (4 + pkV E 4 3)).2
    split
    · simp only [amsT, List.length_append, List.length_cons, List.length_nil]; omega
    · exact Nat.zero_le _
  have len4 : (paT E).length ≤ 10 := by
    unfold paT
    have h1 := (dgl_l (pkV E 6 4)).2
    split
    · simp only [List.length_append, List.length_cons, List.length_nil]; omega
    · exact Nat.zero_le _
  have s211 : ∀ (uc us : Nat) (v5 : Int32) (I9 : Nat → Nat → Int32) (R9 : Nat → Nat → Option Nat) (k9 : Nat), sbL I9 J R9 D (allT E) k9 → sbF (up2 I 80 1 0) I9 (up2 R 80 0 (some 81)) R9 → uc ≤ 80 → us ≤ 10300 → g_Wp E l mL_begins { frames := 10, cells := 100, slots := 11000, locals := 215 } Φ uc us 211 [(5, .int v5), (4, .int (nI (nHe E))), (3, .int (nI (nRu E))), (2, .ref 80), (0, .ref 0), (1, .ref 1000)] [] (I9, J, R9, D, 82 + k9, true) := by
    intro uc us v5 I9 R9 k9 h9 f9 hu1 hu2
    refine w_wid hu1 hu2 ?_
    refine w_aload_n dL_begins_211 rfl ?_
    refine y_callV dL_begins_212 lk_L_60 [] rfl (c_SB_length E l h9.1.2.2.2.1 (show 80 < 82 + k9 by omega)) (g_recv.obj (ci := 7) rfl (by decide) (show 80 < 82 + k9 by omega)) rfl ⟨⟨by decide, by decide⟩, by decide, by decide⟩ (lb rfl) ?_
    refine w_istore dL_begins_215 (by decide) rfl ?_
    exact kk I9 R9 k9 h9 f9
  have s194 : ∀ (uc us : Nat) (v5 : Int32) (I9 : Nat → Nat → Int32) (R9 : Nat → Nat → Option Nat) (k9 : Nat), sbL I9 J R9 D (ruT E (nRu E) ++ hpT E (nRu E) (nHe E) ++ shT E ++ paT E) k9 → sbF (up2 I 80 1 0) I9 (up2 R 80 0 (some 81)) R9 → uc ≤ 73 → us ≤ 10120 → g_Wp E l mL_begins { frames := 10, cells := 100, slots := 11000, locals := 215 } Φ uc us 194 [(5, .int v5), (4, .int (nI (nHe E))), (3, .int (nI (nRu E))), (2, .ref 80), (0, .ref 0), (1, .ref 1000)] [] (I9, J, R9, D, 82 + k9, true) := by
    intro uc us v5 I9 R9 k9 h9 f9 hu1 hu2
    refine w_wid hu1 hu2 ?_
    by_cases h0 : pkV E 7 2 = 0
    · refine w_aload_n dL_begins_194 rfl ?_
      refine w_bipush (v := 7) dL_begins_195 (by decide) ?_
      refine w_iconst (v := 2) dL_begins_197 (by decide) ?_
      refine y_callS dL_begins_198 lk_L_28 [.ref 1000, .int (nI 7), .int (nI 2)] rfl (c_L_pick E l _ hL (by decide) (by decide) (by decide)) rfl ⟨⟨by decide, by decide⟩, by decide, by decide⟩ (lb rfl) ?_
      refine w_if_ne (tgt := 211) dL_begins_201 (by decide) (fun c_201 => absurd ((by rw [h0]; rfl)) c_201) (fun c_201 => ?_)
      refine w_aload_n dL_begins_204 rfl ?_
      refine w_ldcS (i := 20) (tx := "misere;") dL_begins_205 (by decide +kernel) (by decide) ?_
      refine a_str (i := 20) dL_begins_207 lk_L_17 hv h9 (by decide) (by simp only [List.length_append]; omega) ⟨⟨by decide, by decide⟩, by decide, by decide⟩ (lb rfl) (fun I1 R1 k1 h1 f1 => ?_)
      rw [wn20] at h1
      refine w_pop dL_begins_210 rfl ?_
      refine s211 _ _ v5 I1 R1 k1 ?_ (f9.trans f1) (by decide) (by decide)
      unfold allT miT
      rw [if_pos h0]
      exact h1
    · refine w_aload_n dL_begins_194 rfl ?_
      refine w_bipush (v := 7) dL_begins_195 (by decide) ?_
      refine w_iconst (v := 2) dL_begins_197 (by decide) ?_
      refine y_callS dL_begins_198 lk_L_28 [.ref 1000, .int (nI 7), .int (nI 2)] rfl (c_L_pick E l _ hL (by decide) (by decide) (by decide)) rfl ⟨⟨by decide, by decide⟩, by decide, by decide⟩ (lb rfl) ?_
      refine w_if_ne (tgt := 211) dL_begins_201 (by decide) (fun c_201 => ?_) (fun c_201 => absurd c_201 ((fun q => h0 (n_eq (b := 0) q (by have := pkV_lt E 7 (n := 2) (by decide); omega)))))
      refine s211 _ _ v5 I9 R9 k9 ?_ f9 (by decide) (by decide)
      unfold allT miT
      rw [if_neg h0, List.append_nil]
      exact h9
  have s163 : ∀ (uc us : Nat) (v5 : Int32) (I9 : Nat → Nat → Int32) (R9 : Nat → Nat → Option Nat) (k9 : Nat), sbL I9 J R9 D (ruT E (nRu E) ++ hpT E (nRu E) (nHe E) ++ shT E) k9 → sbF (up2 I 80 1 0) I9 (up2 R 80 0 (some 81)) R9 → uc ≤ 70 → us ≤ 9690 → g_Wp E l mL_begins { frames := 10, cells := 100, slots := 11000, locals := 215 } Φ uc us 163 [(5, .int v5), (4, .int (nI (nHe E))), (3, .int (nI (nRu E))), (2, .ref 80), (0, .ref 0), (1, .ref 1000)] [] (I9, J, R9, D, 82 + k9, true) := by
    intro uc us v5 I9 R9 k9 h9 f9 hu1 hu2
    refine w_wid hu1 hu2 ?_
    have hp6 := pkV_lt E 6 (n := 4) (by decide)
    by_cases h0 : pkV E 5 2 = 0
    · refine w_aload_n dL_begins_163 rfl ?_
      refine w_iconst (v := 5) dL_begins_164 (by decide) ?_
      refine w_iconst (v := 2) dL_begins_165 (by decide) ?_
      refine y_callS dL_begins_166 lk_L_28 [.ref 1000, .int (nI 5), .int (nI 2)] rfl (c_L_pick E l _ hL (by decide) (by decide) (by decide)) rfl ⟨⟨by decide, by decide⟩, by decide, by decide⟩ (lb rfl) ?_
      refine w_if_ne (tgt := 194) dL_begins_169 (by decide) (fun c_169 => absurd ((by rw [h0]; rfl)) c_169) (fun c_169 => ?_)
      refine w_aload_n dL_begins_172 rfl ?_
      refine w_ldcS (i := 19) (tx := "passes ") dL_begins_173 (by decide +kernel) (by decide) ?_
      refine a_str (i := 19) dL_begins_175 lk_L_17 hv h9 (by decide) (by simp only [List.length_append]; omega) ⟨⟨by decide, by decide⟩, by decide, by decide⟩ (lb rfl) (fun I1 R1 k1 h1 f1 => ?_)
      rw [wn19] at h1
      refine w_aload_n dL_begins_178 rfl ?_
      refine w_bipush (v := 6) dL_begins_179 (by decide) ?_
      refine w_iconst (v := 4) dL_begins_181 (by decide) ?_
      refine y_callS dL_begins_182 lk_L_28 [.ref 1000, .int (nI 6), .int (nI 4)] rfl (c_L_pick E l _ hL (by decide) (by decide) (by decide)) rfl ⟨⟨by decide, by decide⟩, by decide, by decide⟩ (lb rfl) ?_
      refine a_num dL_begins_185 lk_L_42 hv h1 rfl (by omega) (by simp only [List.length_append, List.length_cons, List.length_nil]; omega) ⟨⟨by decide, by decide⟩, by decide, by decide⟩ (lb rfl) (fun I2 R2 k2 h2 f2 => ?_)
      refine w_ldcS (i := 16) (tx := ";") dL_begins_188 (by decide +kernel) (by decide) ?_
      refine a_str (i := 16) dL_begins_190 lk_L_17 hv h2 (by decide) (by have := (dgl_l (pkV E 6 4)).2; simp only [List.length_append, List.length_cons, List.length_nil]; omega) ⟨⟨by decide, by decide⟩, by decide, by decide⟩ (lb rfl) (fun I3 R3 k3 h3 f3 => ?_)
      rw [wn16] at h3
      refine w_pop dL_begins_193 rfl ?_
      refine s194 _ _ v5 I3 R3 k3 ?_ (((f9.trans f1).trans f2).trans f3) (by decide) (by decide)
      have e : paT E = wPa ++ [32] ++ dgl (pkV E 6 4) ++ [59] := by unfold paT; rw [if_pos h0]; simp
      rw [e, ← List.append_assoc, ← List.append_assoc]
      exact h3
    · refine w_aload_n dL_begins_163 rfl ?_
      refine w_iconst (v := 5) dL_begins_164 (by decide) ?_
      refine w_iconst (v := 2) dL_begins_165 (by decide) ?_
      refine y_callS dL_begins_166 lk_L_28 [.ref 1000, .int (nI 5), .int (nI 2)] rfl (c_L_pick E l _ hL (by decide) (by decide) (by decide)) rfl ⟨⟨by decide, by decide⟩, by decide, by decide⟩ (lb rfl) ?_
      refine w_if_ne (tgt := 194) dL_begins_169 (by decide) (fun c_169 => ?_) (fun c_169 => absurd c_169 ((fun q => h0 (n_eq (b := 0) q (by have := pkV_lt E 5 (n := 2) (by decide); omega)))))
      refine s194 _ _ v5 I9 R9 k9 ?_ f9 (by decide) (by decide)
      unfold paT
      rw [if_neg h0, List.append_nil]
      exact h9
  have s115 : ∀ (uc us : Nat) (v5 : Int32) (I9 : Nat → Nat → Int32) (R9 : Nat → Nat → Option Nat) (k9 : Nat), sbL I9 J R9 D (ruT E (nRu E) ++ hpT E (nRu E) (nHe E)) k9 → sbF (up2 I 80 1 0) I9 (up2 R 80 0 (some 81)) R9 → uc ≤ 65 → us ≤ 8980 → g_Wp E l mL_begins { frames := 10, cells := 100, slots := 11000, locals := 215 } Φ uc us 115 [(5, .int v5), (4, .int (nI (nHe E))), (3, .int (nI (nRu E))), (2, .ref 80), (0, .ref 0), (1, .ref 1000)] [] (I9, J, R9, D, 82 + k9, true) := by
    intro uc us v5 I9 R9 k9 h9 f9 hu1 hu2
    refine w_wid hu1 hu2 ?_
    have hp3 := pkV_lt E 3 (n := 3) (by decide)
    have hp4 := pkV_lt E 4 (n := 3) (by decide)
    have e1 : (1 : Int32) + nI (pkV E 3 3) = nI (1 + pkV E 3 3) := nI_add 1 _
    have e4 : (4 : Int32) + nI (pkV E 4 3) = nI (4 + pkV E 4 3) := nI_add 4 _
    have d1 := (dgl_l (1 + pkV E 3 3)).2
    have d2 := (dgl_l (4 + pkV E 4 3)).2
    by_cases h0 : pkV E 2 2 = 0
    · refine w_aload_n dL_begins_115 rfl ?_
      refine w_iconst (v := 2) dL_begins_116 (by decide) ?_
      refine w_iconst (v := 2) dL_begins_117 (by decide) ?_
      refine y_callS dL_begins_118 lk_L_28 [.ref 1000, .int (nI 2), .int (nI 2)] rfl (c_L_pick E l _ hL (by decide) (by decide) (by decide)) rfl ⟨⟨by decide, by decide⟩, by decide, by decide⟩ (lb rfl) ?_
      refine w_if_ne (tgt := 163) dL_begins_121 (by decide) (fun c_121 => absurd ((by rw [h0]; rfl)) c_121) (fun c_121 => ?_)
      refine w_aload_n dL_begins_124 rfl ?_
      refine w_ldcS (i := 18) (tx := "shared ") dL_begins_125 (by decide +kernel) (by decide) ?_
      refine a_str (i := 18) dL_begins_127 lk_L_17 hv h9 (by decide) (by simp only [List.length_append]; omega) ⟨⟨by decide, by decide⟩, by decide, by decide⟩ (lb rfl) (fun I1 R1 k1 h1 f1 => ?_)
      rw [wn18] at h1
      refine w_iconst (v := 1) dL_begins_130 (by decide) ?_
      refine w_aload_n dL_begins_131 rfl ?_
      refine w_iconst (v := 3) dL_begins_132 (by decide) ?_
      refine w_iconst (v := 3) dL_begins_133 (by decide) ?_
      refine y_callS dL_begins_134 lk_L_28 [.ref 1000, .int (nI 3), .int (nI 3)] rfl (c_L_pick E l _ hL (by decide) (by decide) (by decide)) rfl ⟨⟨by decide, by decide⟩, by decide, by decide⟩ (lb rfl) ?_
      refine w_iadd dL_begins_137 ?_
      rw [e1]
      refine a_num dL_begins_138 lk_L_42 hv h1 rfl (by omega) (by simp only [List.length_append, List.length_cons, List.length_nil]; omega) ⟨⟨by decide, by decide⟩, by decide, by decide⟩ (lb rfl) (fun I2 R2 k2 h2 f2 => ?_)
      refine w_ldcS (i := 11) (tx := " ") dL_begins_141 (by decide +kernel) (by decide) ?_
      refine a_str (i := 11) dL_begins_143 lk_L_17 hv h2 (by decide) (by simp only [List.length_append, List.length_cons, List.length_nil]; omega) ⟨⟨by decide, by decide⟩, by decide, by decide⟩ (lb rfl) (fun I3 R3 k3 h3 f3 => ?_)
      rw [wn11] at h3
      refine w_iconst (v := 4) dL_begins_146 (by decide) ?_
      refine w_aload_n dL_begins_147 rfl ?_
      refine w_iconst (v := 4) dL_begins_148 (by decide) ?_
      refine w_iconst (v := 3) dL_begins_149 (by decide) ?_
      refine y_callS dL_begins_150 lk_L_28 [.ref 1000, .int (nI 4), .int (nI 3)] rfl (c_L_pick E l _ hL (by decide) (by decide) (by decide)) rfl ⟨⟨by decide, by decide⟩, by decide, by decide⟩ (lb rfl) ?_
      refine w_iadd dL_begins_153 ?_
      rw [e4]
      refine a_num dL_begins_154 lk_L_42 hv h3 rfl (by omega) (by simp only [List.length_append, List.length_cons, List.length_nil]; omega) ⟨⟨by decide, by decide⟩, by decide, by decide⟩ (lb rfl) (fun I4 R4 k4 h4 f4 => ?_)
      refine w_ldcS (i := 16) (tx := ";") dL_begins_157 (by decide +kernel) (by decide) ?_
      refine a_str (i := 16) dL_begins_159 lk_L_17 hv h4 (by decide) (by simp only [List.length_append, List.length_cons, List.length_nil]; omega) ⟨⟨by decide, by decide⟩, by decide, by decide⟩ (lb rfl) (fun I5 R5 k5 h5 f5 => ?_)
      rw [wn16] at h5
      refine w_pop dL_begins_162 rfl ?_
      refine s163 _ _ v5 I5 R5 k5 ?_ (((((f9.trans f1).trans f2).trans f3).trans f4).trans f5) (by decide) (by decide)
      have e : shT E = wSh ++ [32] ++ dgl (1 + pkV E 3 3) ++ [32] ++ dgl (4 + pkV E 4 3) ++ [59] := by unfold shT; rw [if_pos h0]; simp [amsT]
      rw [e, ← List.append_assoc, ← List.append_assoc, ← List.append_assoc, ← List.append_assoc]
      exact h5
    · refine w_aload_n dL_begins_115 rfl ?_
      refine w_iconst (v := 2) dL_begins_116 (by decide) ?_
      refine w_iconst (v := 2) dL_begins_117 (by decide) ?_
      refine y_callS dL_begins_118 lk_L_28 [.ref 1000, .int (nI 2), .int (nI 2)] rfl (c_L_pick E l _ hL (by decide) (by decide) (by decide)) rfl ⟨⟨by decide, by decide⟩, by decide, by decide⟩ (lb rfl) ?_
      refine w_if_ne (tgt := 163) dL_begins_121 (by decide) (fun c_121 => ?_) (fun c_121 => absurd c_121 ((fun q => h0 (n_eq (b := 0) q (by have := pkV_lt E 2 (n := 2) (by decide); omega)))))
      refine s163 _ _ v5 I9 R9 k9 ?_ f9 (by decide) (by decide)
      unfold shT
      rw [if_neg h0, List.append_nil]
      exact h9
  have loop2 : ∀ f i : Nat, i + f = nHe E → ∀ (I9 : Nat → Nat → Int32) (R9 : Nat → Nat → Option Nat) (k9 : Nat), sbL I9 J R9 D (ruT E (nRu E) ++ hpT E (nRu E) i) k9 → sbF (up2 I 80 1 0) I9 (up2 R 80 0 (some 81)) R9 → g_Wp E l mL_begins { frames := 10, cells := 100, slots := 11000, locals := 215 } Φ (50 + 5 * i) (6850 + 710 * i) 50 [(5, .int (nI i)), (4, .int (nI (nHe E))), (3, .int (nI (nRu E))), (2, .ref 80), (0, .ref 0), (1, .ref 1000)] [] (I9, J, R9, D, 82 + k9, true) := by
    intro f
    induction f with
    | zero =>
      intro i hi I9 R9 k9 h9 f9
      obtain rfl : i = nHe E := by omega
      refine w_iload dL_begins_50 rfl ?_
      refine w_iload dL_begins_52 rfl ?_
      refine w_icmp_ge (tgt := 115) dL_begins_54 (by decide) (fun c_54 => ?_) (fun c_54 => absurd ((nI_le (Nat.le_refl _) (by omega))) c_54)
      exact s115 _ _ _ I9 R9 k9 h9 f9 (by omega) (by omega)
    | succ f ih =>
      intro i hi I9 R9 k9 h9 f9
      have li := hpT_len E (nRu E) i
      have e50 : (50 : Int32) + 2 * nI i = nI (50 + 2 * i) := lin2 50 2 i
      have e51 : (51 : Int32) + 2 * nI i = nI (51 + 2 * i) := lin2 51 2 i
      have hp1 := pkV_lt E (50 + 2 * i) (n := nRu E) (by omega)
      have hp2 := pkV_lt E (51 + 2 * i) (n := 10) (by decide)
      have e97 : (97 : Int32) + nI (pkV E (50 + 2 * i) (nRu E)) = nI (97 + pkV E (50 + 2 * i) (nRu E)) := nI_add 97 _
      have d1 := (dgl_l (pkV E (51 + 2 * i) 10)).2
      refine w_iload dL_begins_50 rfl ?_
      refine w_iload dL_begins_52 rfl ?_
      refine w_icmp_ge (tgt := 115) dL_begins_54 (by decide) (fun c_54 => absurd c_54 ((nI_ge (by omega) (by omega)))) (fun c_54 => ?_)
      refine w_aload_n dL_begins_57 rfl ?_
      refine w_ldcS (i := 17) (tx := "heap ") dL_begins_58 (by decide +kernel) (by decide) ?_
      refine a_str (i := 17) dL_begins_60 lk_L_17 hv h9 (by decide) (by simp only [List.length_append]; omega) ⟨⟨by decide, by decide⟩, (show 50 + 5 * i + 1 ≤ 100 by omega), (show 6850 + 710 * i + 142 ≤ 11000 by omega)⟩ (lb rfl) (fun I1 R1 k1 h1 f1 => ?_)
      rw [wn17] at h1
      refine w_bipush (v := 97) dL_begins_63 (by decide) ?_
      refine w_aload_n dL_begins_65 rfl ?_
      refine w_bipush (v := 50) dL_begins_66 (by decide) ?_
      refine w_iconst (v := 2) dL_begins_68 (by decide) ?_
      refine w_iload dL_begins_69 rfl ?_
      refine w_imul dL_begins_71 ?_
      refine w_iadd dL_begins_72 ?_
      rw [e50]
      refine w_iload_n dL_begins_73 rfl ?_
      refine y_callS dL_begins_74 lk_L_28 [.ref 1000, .int (nI (50 + 2 * i)), .int (nI (nRu E))] rfl (c_L_pick E l _ hL (by omega) (by omega) (by omega)) rfl ⟨⟨by decide, by decide⟩, (show 50 + 5 * i + 1 + 0 ≤ 100 by omega), (show 6850 + 710 * i + 142 + 0 ≤ 11000 by omega)⟩ (lb rfl) ?_
      refine w_iadd dL_begins_77 ?_
      rw [e97]
      refine w_i2c dL_begins_78 ?_
      rw [i2c_ok _ (by omega)]
      refine a_chr dL_begins_79 lk_L_23 hv h1 rfl (by omega) (by simp only [List.length_append, List.length_cons, List.length_nil]; omega) ⟨⟨by decide, by decide⟩, (show 50 + 5 * i + 1 + 0 + 1 ≤ 100 by omega), (show 6850 + 710 * i + 142 + 0 + 142 ≤ 11000 by omega)⟩ (lb rfl) (fun I2 R2 k2 h2 f2 => ?_)
      refine w_ldcS (i := 11) (tx := " ") dL_begins_82 (by decide +kernel) (by decide) ?_
      refine a_str (i := 11) dL_begins_84 lk_L_17 hv h2 (by decide) (by simp only [List.length_append, List.length_cons, List.length_nil]; omega) ⟨⟨by decide, by decide⟩, (show 50 + 5 * i + 1 + 0 + 1 + 1 ≤ 100 by omega), (show 6850 + 710 * i + 142 + 0 + 142 + 142 ≤ 11000 by omega)⟩ (lb rfl) (fun I3 R3 k3 h3 f3 => ?_)
      rw [wn11] at h3
      refine w_aload_n dL_begins_87 rfl ?_
      refine w_bipush (v := 51) dL_begins_88 (by decide) ?_
      refine w_iconst (v := 2) dL_begins_90 (by decide) ?_
      refine w_iload dL_begins_91 rfl ?_
      refine w_imul dL_begins_93 ?_
      refine w_iadd dL_begins_94 ?_
      rw [e51]
      refine w_bipush (v := 10) dL_begins_95 (by decide) ?_
      refine y_callS dL_begins_97 lk_L_28 [.ref 1000, .int (nI (51 + 2 * i)), .int (nI 10)] rfl (c_L_pick E l _ hL (by omega) (by decide) (by decide)) rfl ⟨⟨by decide, by decide⟩, (show 50 + 5 * i + 1 + 0 + 1 + 1 + 0 ≤ 100 by omega), (show 6850 + 710 * i + 142 + 0 + 142 + 142 + 0 ≤ 11000 by omega)⟩ (lb rfl) ?_
      refine a_num dL_begins_100 lk_L_42 hv h3 rfl (by omega) (by simp only [List.length_append, List.length_cons, List.length_nil]; omega) ⟨⟨by decide, by decide⟩, (show 50 + 5 * i + 1 + 0 + 1 + 1 + 0 + 1 ≤ 100 by omega), (show 6850 + 710 * i + 142 + 0 + 142 + 142 + 0 + 142 ≤ 11000 by omega)⟩ (lb rfl) (fun I4 R4 k4 h4 f4 => ?_)
      refine w_ldcS (i := 16) (tx := ";") dL_begins_103 (by decide +kernel) (by decide) ?_
      refine a_str (i := 16) dL_begins_105 lk_L_17 hv h4 (by decide) (by simp only [List.length_append, List.length_cons, List.length_nil]; omega) ⟨⟨by decide, by decide⟩, (show 50 + 5 * i + 1 + 0 + 1 + 1 + 0 + 1 + 1 ≤ 100 by omega), (show 6850 + 710 * i + 142 + 0 + 142 + 142 + 0 + 142 + 142 ≤ 11000 by omega)⟩ (lb rfl) (fun I5 R5 k5 h5 f5 => ?_)
      rw [wn16] at h5
      refine w_pop dL_begins_108 rfl ?_
      refine w_iinc (v := nI (i + 1)) dL_begins_109 rfl (nI_inc _) (by decide) rfl ?_
      refine w_goto (tgt := 50) dL_begins_112 (by decide) ?_
      refine w_wid (uc' := 50 + 5 * (i + 1)) (us' := 6850 + 710 * (i + 1)) (by omega) (by omega) (ih (i + 1) (by omega) I5 R5 k5 ?_ (((((f9.trans f1).trans f2).trans f3).trans f4).trans f5))
      have e : hpT E (nRu E) (i + 1) = hpT E (nRu E) i ++ (wHe ++ [32]) ++ [97 + pkV E (50 + 2 * i) (nRu E)] ++ [32] ++ dgl (pkV E (51 + 2 * i) 10) ++ [59] := by rw [hpT, hpL]; simp
      rw [e, ← List.append_assoc, ← List.append_assoc, ← List.append_assoc, ← List.append_assoc, ← List.append_assoc]
      exact h5
  have loop1 : ∀ f i : Nat, i + f = nRu E → ∀ (I9 : Nat → Nat → Int32) (R9 : Nat → Nat → Option Nat) (k9 : Nat), sbL I9 J R9 D (ruT E i) k9 → sbF (up2 I 80 1 0) I9 (up2 R 80 0 (some 81)) R9 → g_Wp E l mL_begins { frames := 10, cells := 100, slots := 11000, locals := 215 } Φ (2 + 16 * i) (20 + 2272 * i) 20 [(4, .int (nI i)), (3, .int (nI (nRu E))), (2, .ref 80), (0, .ref 0), (1, .ref 1000)] [] (I9, J, R9, D, 82 + k9, true) := by
    intro f
    induction f with
    | zero =>
      intro i hi I9 R9 k9 h9 f9
      obtain rfl : i = nRu E := by omega
      refine w_wid (uc' := 50) (us' := 6850) (by omega) (by omega) ?_
      refine w_iload dL_begins_20 rfl ?_
      refine w_iload_n dL_begins_22 rfl ?_
      refine w_icmp_ge (tgt := 39) dL_begins_23 (by decide) (fun c_23 => ?_) (fun c_23 => absurd ((nI_le (Nat.le_refl _) (by omega))) c_23)
      refine w_aload_n dL_begins_39 rfl ?_
      refine w_iconst (v := 1) dL_begins_40 (by decide) ?_
      refine w_iconst (v := 4) dL_begins_41 (by decide) ?_
      refine y_callS dL_begins_42 lk_L_28 [.ref 1000, .int (nI 1), .int (nI 4)] rfl (c_L_pick E l _ hL (by decide) (by decide) (by decide)) rfl ⟨⟨by decide, by decide⟩, by decide, by decide⟩ (lb rfl) ?_
      refine w_istore dL_begins_45 (by decide) rfl ?_
      refine w_iconst (v := 0) dL_begins_47 (by decide) ?_
      refine w_istore dL_begins_48 (by decide) rfl ?_
      exact loop2 _ 0 (Nat.zero_add _) I9 R9 k9 (by show sbL I9 J R9 D (ruT E (nRu E) ++ []) k9; rw [List.append_nil]; exact h9) f9
    | succ f ih =>
      intro i hi I9 R9 k9 h9 f9
      have li := ruT_len E i
      refine w_iload dL_begins_20 rfl ?_
      refine w_iload_n dL_begins_22 rfl ?_
      refine w_icmp_ge (tgt := 39) dL_begins_23 (by decide) (fun c_23 => absurd c_23 ((nI_ge (by omega) (by omega)))) (fun c_23 => ?_)
      refine w_aload_n dL_begins_26 rfl ?_
      refine w_aload_n dL_begins_27 rfl ?_
      refine w_iload dL_begins_28 rfl ?_
      refine sy_callS dL_begins_30 lk_L_48 [.ref 80, .ref 1000, .int (nI i)] rfl (c_L_rule E l hv hL h9 (by omega) (by omega)) rfl ⟨⟨by decide, by decide⟩, (show 2 + 16 * i + 16 ≤ 100 by omega), (show 20 + 2272 * i + 2272 ≤ 11000 by omega)⟩ (lb rfl) (fun I1 R1 k1 h1 f1 => ?_)
      refine w_iinc (v := nI (i + 1)) dL_begins_33 rfl (nI_inc _) (by decide) rfl ?_
      refine w_goto (tgt := 20) dL_begins_36 (by decide) ?_
      exact w_wid (uc' := 2 + 16 * (i + 1)) (us' := 20 + 2272 * (i + 1)) (by omega) (by omega) (ih (i + 1) (by omega) I1 R1 k1 h1 (f9.trans f1))
  have e1 : (1 : Int32) + nI (pkV E 0 3) = nI (nRu E) := nI_add 1 _
  refine x_new (ci := 7) dL_begins_0 (by decide) rfl (by decide) cl_L_18 inst_7 init_7 hz (by decide) (by decide) ?_
  refine w_dup dL_begins_3 rfl ?_
  refine z_callI dL_begins_4 lk_L_47 [] rfl (c_SB_init E l hz) rfl ⟨⟨by decide, by decide⟩, by decide, by decide⟩ (lb rfl) ?_
  refine w_astore_n dL_begins_7 (by decide) rfl ?_
  refine w_iconst (v := 1) dL_begins_8 (by decide) ?_
  refine w_aload_n dL_begins_9 rfl ?_
  refine w_iconst (v := 0) dL_begins_10 (by decide) ?_
  refine w_iconst (v := 3) dL_begins_11 (by decide) ?_
  refine y_callS dL_begins_12 lk_L_28 [.ref 1000, .int (nI 0), .int (nI 3)] rfl (c_L_pick E l _ hL (by decide) (by decide) (by decide)) rfl ⟨⟨by decide, by decide⟩, by decide, by decide⟩ (lb rfl) ?_
  refine w_iadd dL_begins_15 ?_
  rw [e1]
  refine w_istore_n dL_begins_16 (by decide) rfl ?_
  refine w_iconst (v := 0) dL_begins_17 (by decide) ?_
  refine w_istore dL_begins_18 (by decide) rfl ?_
  exact w_wid (uc' := 2 + 16 * 0) (us' := 20 + 2272 * 0) (by decide) (by decide) (loop1 _ 0 (Nat.zero_add _) _ _ 0 (sbL_nil hz) (sbF.refl _ _))
end BT
