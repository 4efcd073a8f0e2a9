/-! the law's text: a rule -/
theorem wn5 : g_wn.getD 5 [] = wTa := by decide +kernel
theorem wn10 : g_wn.getD 10 [] = wRu ++ [32] := by decide +kernel
theorem wn11 : g_wn.getD 11 [] = [32] := by decide +kernel
theorem wn12 : g_wn.getD 12 [] = wDi ++ [59] := by decide +kernel
theorem wn13 : g_wn.getD 13 [] = wHa ++ [59] := by decide +kernel
theorem wn14 : g_wn.getD 14 [] = wPo ++ [59] := by decide +kernel
theorem wn15 : g_wn.getD 15 [] = wSq ++ [59] := by decide +kernel
theorem wn16 : g_wn.getD 16 [] = [59] := by decide +kernel
theorem wn17 : g_wn.getD 17 [] = wHe ++ [32] := by decide +kernel
theorem wn18 : g_wn.getD 18 [] = wSh ++ [32] := by decide +kernel
theorem wn19 : g_wn.getD 19 [] = wPa ++ [32] := by decide +kernel
theorem wn20 : g_wn.getD 20 [] = wMi ++ [59] := by decide +kernel
theorem wl_v : wl 5 = 4 ∧ wl 10 = 5 ∧ wl 11 = 1 ∧ wl 12 = 9 ∧ wl 13 = 5 ∧ wl 14 = 7 ∧ wl 15 = 8 ∧ wl 16 = 1 ∧ wl 17 = 5 ∧ wl 18 = 7 ∧ wl 19 = 7 ∧ wl 20 = 7 := by decide +kernel
theorem ww_l : wRu.length = 4 ∧ wHe.length = 4 ∧ wSh.length = 6 ∧ wPa.length = 6 ∧ wMi.length = 6 ∧ wTa.length = 4 ∧ wDi.length = 8 ∧ wHa.length = 4 ∧ wPo.length = 6 ∧ wSq.length = 7 := by decide
theorem i2c_ok : ∀ c, c < 128 → ((nI c).toUInt32 % 65536).toInt32 = nI c := by decide +kernel
theorem lin2 (a b k : Nat) : nI a + nI b * nI k = nI (a + b * k) := by rw [pk_mul, nI_add]
def kdW (c : Nat) : List Nat := if c = 0 then wDi else if c = 1 then wHa else if c = 2 then wPo else wSq
def amS (E : GE) (k : Nat) : Nat → Nat
  | 0 => 0
  | i + 1 => amS E k i + (1 + pkV E (12 + 10 * k + i) 4)
def amV (E : GE) (k : Nat) : Nat → List Nat
  | 0 => []
  | i + 1 => amV E k i ++ [amS E k (i + 1)]
def ruB (E : GE) (k : Nat) : List Nat := if pkV E (10 + 10 * k) 6 < 4 then kdW (pkV E (10 + 10 * k) 6) ++ [59] else wTa ++ (amsT (amV E k (1 + pkV E (11 + 10 * k) 4)) ++ [59])
def ruL (E : GE) (k : Nat) : List Nat := wRu ++ (32 :: ([97 + k] ++ (32 :: ruB E k)))
theorem amsT_app : ∀ (vs : List Nat) (v : Nat), amsT (vs ++ [v]) = amsT vs ++ ([32] ++ dgl v)
  | [], v => by show 32 :: (dgl v ++ []) = [] ++ ([32] ++ dgl v); simp
  | x :: r, v => by
    show 32 :: (dgl x ++ amsT (r ++ [v])) = (32 :: (dgl x ++ amsT r)) ++ ([32] ++ dgl v)
    rw [amsT_app r v]
    simp
theorem amS_le (E : GE) (k : Nat) : ∀ i, i ≤ amS E k i ∧ amS E k i ≤ 4 * i
  | 0 => ⟨Nat.le_refl _, Nat.le_refl _⟩
  | i + 1 => by have := amS_le E k i; have := pkV_lt E (12 + 10 * k + i) (n := 4) (by decide); rw [amS]; omega
theorem amV_len (E : GE) (k : Nat) : ∀ i, (amV E k i).length = i
  | 0 => rfl
  | i + 1 => by rw [amV, List.length_append, amV_len E k i]; rfl
theorem amT_len (E : GE) (k : Nat) : ∀ i, (amsT (amV E k i)).length ≤ 3 * i
  | 0 => Nat.le_refl _
  | i + 1 => by
    have := amT_len E k i
    have := (dgl_l (amS E k (i + 1))).2
    rw [amV, amsT_app, List.length_append, List.length_append, List.length_singleton]
    omega
theorem upL_app : ∀ {vs : List Nat} {b v : Nat}, upL b vs → (∀ x ∈ vs, x < v) → b < v → upL b (vs ++ [v])
  | [], b, v, _, _, h => ⟨h, trivial⟩
  | x :: r, b, v, h, hx, _ => ⟨h.1, upL_app h.2 (fun y hy => hx y (by simp [hy])) (hx x (by simp))⟩
theorem amV_ok (E : GE) (k : Nat) : ∀ i, upL 0 (amV E k i) ∧ ∀ v ∈ amV E k i, 1 ≤ v ∧ v ≤ amS E k i
  | 0 => ⟨trivial, fun v hv => (List.not_mem_nil hv).elim⟩
  | i + 1 => by
    obtain ⟨h1, h2⟩ := amV_ok E k i
    have hs : amS E k i < amS E k (i + 1) := by rw [amS]; omega
    refine ⟨upL_app h1 (fun x hx => by have := h2 x hx; omega) (by omega), fun v hv => ?_⟩
    rcases List.mem_append.mp hv with q | q
    · have := h2 v q; omega
    · rw [List.mem_singleton] at q
      omega
section RU
variable (E : GE) (l : Launch)
variable {I : Nat → Nat → Int32} {J : Nat → Nat → Int64} {R : Nat → Nat → Option Nat} {D : Nat → Nat → UInt64} {T : List Nat} {b : Nat}
set_option maxRecDepth 100000 in
theorem c_L_rule (hv : g_lvs E) (hL : E.2.2.2.2.1 ≤ 260) (h : sbL I J R D T b) {k : Nat} (hk : k < 3) (hT : T.length + 24 ≤ 142) : g_Ct E l mL_rule 6 148 16 2272 [.ref 80, .ref 1000, .int (nI k)] (I, J, R, D, 82 + b, true) (sbY none J D I R (T ++ ruL E k)) := by
  refine g_Ct.of (by decide +kernel) (lb rfl) ?_
  have hw := wl_v
  have hl := ww_l
  have e97 : (97 : Int32) + nI k = nI (97 + k) := nI_add 97 k
  have e10 : (10 : Int32) + 10 * nI k = nI (10 + 10 * k) := lin2 10 10 k
  have e11 : (11 : Int32) + 10 * nI k = nI (11 + 10 * k) := lin2 11 10 k
  have e12 : (12 : Int32) + 10 * nI k = nI (12 + 10 * k) := lin2 12 10 k
  have hp6 := pkV_lt E (10 + 10 * k) (n := 6) (by decide)
  have fin : ∀ (uc us : Nat) (I9 : Nat → Nat → Int32) (R9 : Nat → Nat → Option Nat) (k9 : Nat) (ls : List (Nat × Value)), sbL I9 J R9 D (T ++ ruL E k) k9 → sbF I I9 R R9 → uc ≤ 16 → us ≤ 2272 → g_Wp E l mL_rule { frames := 6, cells := 16, slots := 2272, locals := 148 } (g_Fin E (sbY none J D I R (T ++ ruL E k)) 16 2272) uc us 179 ls [] (I9, J, R9, D, 82 + k9, true) := by
    intro uc us I9 R9 k9 ls h9 f9 hu1 hu2
    refine w_vret dL_rule_179 rfl ⟨_, _, k9, rfl, rfl, h9, f9⟩ hu1 hu2
  have loop : 4 ≤ pkV E (10 + 10 * k) 6 → ∀ f i : Nat, i + f = 1 + pkV E (11 + 10 * k) 4 → ∀ (I9 : Nat → Nat → Int32) (R9 : Nat → Nat → Option Nat) (k9 : Nat), sbL I9 J R9 D (T ++ (wRu ++ [32]) ++ [97 + k] ++ [32] ++ wTa ++ amsT (amV E k i)) k9 → sbF I I9 R R9 →
      g_Wp E l mL_rule { frames := 6, cells := 16, slots := 2272, locals := 148 } (g_Fin E (sbY none J D I R (T ++ ruL E k)) 16 2272) (4 + 2 * i) (568 + 284 * i) 116 [(4, .int (nI i)), (3, .int (nI (amS E k i))), (0, .ref 80), (1, .ref 1000), (2, .int (nI k))] [] (I9, J, R9, D, 82 + k9, true) := by
    intro h4 f
    have hp4 := pkV_lt E (11 + 10 * k) (n := 4) (by decide)
    have e1 : (1 : Int32) + nI (pkV E (11 + 10 * k) 4) = nI (1 + pkV E (11 + 10 * k) 4) := nI_add 1 _
    induction f with
    | zero =>
      intro i hi I9 R9 k9 h9 f9
      have hal := amT_len E k i
      have hlen : (T ++ (wRu ++ [32]) ++ [97 + k] ++ [32] ++ wTa ++ amsT (amV E k i)).length + wl 16 ≤ 142 := by
        simp only [List.length_append, List.length_cons, List.length_nil]
        omega
      refine w_iload dL_rule_116 rfl ?_
      refine w_iconst (v := 1) dL_rule_118 (by decide) ?_
      refine w_aload_n dL_rule_119 rfl ?_
      refine w_bipush (v := 11) dL_rule_120 (by decide) ?_
      refine w_bipush (v := 10) dL_rule_122 (by decide) ?_
      refine w_iload_n dL_rule_124 rfl ?_
      refine w_imul dL_rule_125 ?_
      refine w_iadd dL_rule_126 ?_
      rw [e11]
      refine w_iconst (v := 4) dL_rule_127 (by decide) ?_
      refine y_callS dL_rule_128 lk_L_28 [.ref 1000, .int (nI (11 + 10 * k)), .int (nI 4)] rfl (c_L_pick E l _ hL (by omega) (by decide) (by decide)) rfl ⟨⟨by decide, by decide⟩, (show 4 + 2 * i + 0 ≤ 16 by omega), (show 568 + 284 * i + 0 ≤ 2272 by omega)⟩ (lb rfl) ?_
      refine w_iadd dL_rule_131 ?_
      rw [e1]
      refine w_icmp_ge (tgt := 172) dL_rule_132 (by decide) (fun c_132 => ?_) (fun c_132 => absurd ((nI_le (by omega) (by omega))) c_132)
      refine w_aload_n dL_rule_172 rfl ?_
      refine w_ldcS (i := 16) (tx := ";") dL_rule_173 (by decide +kernel) (by decide) ?_
      refine a_str (i := 16) dL_rule_175 lk_L_17 hv h9 (by decide) hlen ⟨⟨by decide, by decide⟩, (show 4 + 2 * i + 0 + 1 ≤ 16 by omega), (show 568 + 284 * i + 0 + 142 ≤ 2272 by omega)⟩ (lb rfl) (fun I8 R8 k8 h8 f8 => ?_)
      rw [wn16] at h8
      refine w_pop dL_rule_178 rfl ?_
      refine fin _ _ I8 R8 k8 _ ?_ (f9.trans f8) (by omega) (by omega)
      rw [show T ++ ruL E k = T ++ (wRu ++ [32]) ++ [97 + k] ++ [32] ++ wTa ++ amsT (amV E k i) ++ [59] from by unfold ruL ruB; rw [if_neg (by omega), ← hi, Nat.add_zero]; simp]
      exact h8
    | succ f ih =>
      intro i hi I9 R9 k9 h9 f9
      have hal := amT_len E k i
      have hsl := amS_le E k (i + 1)
      have hdl := (dgl_l (amS E k (i + 1))).2
      have hlen : (T ++ (wRu ++ [32]) ++ [97 + k] ++ [32] ++ wTa ++ amsT (amV E k i)).length ≤ T.length + 11 + 3 * i := by
        simp only [List.length_append, List.length_cons, List.length_nil]
        omega
      have e13 : nI (12 + 10 * k) + nI i = nI (12 + 10 * k + i) := nI_add _ _
      have e14 : (1 : Int32) + nI (pkV E (12 + 10 * k + i) 4) = nI (1 + pkV E (12 + 10 * k + i) 4) := nI_add 1 _
      have e15 : nI (amS E k i) + nI (1 + pkV E (12 + 10 * k + i) 4) = nI (amS E k (i + 1)) := nI_add _ _
      refine w_iload dL_rule_116 rfl ?_
      refine w_iconst (v := 1) dL_rule_118 (by decide) ?_
      refine w_aload_n dL_rule_119 rfl ?_
      refine w_bipush (v := 11) dL_rule_120 (by decide) ?_
      refine w_bipush (v := 10) dL_rule_122 (by decide) ?_
      refine w_iload_n dL_rule_124 rfl ?_
      refine w_imul dL_rule_125 ?_
      refine w_iadd dL_rule_126 ?_
      rw [e11]
      refine w_iconst (v := 4) dL_rule_127 (by decide) ?_
      refine y_callS dL_rule_128 lk_L_28 [.ref 1000, .int (nI (11 + 10 * k)), .int (nI 4)] rfl (c_L_pick E l _ hL (by omega) (by decide) (by decide)) rfl ⟨⟨by decide, by decide⟩, (show 4 + 2 * i + 0 ≤ 16 by omega), (show 568 + 284 * i + 0 ≤ 2272 by omega)⟩ (lb rfl) ?_
      refine w_iadd dL_rule_131 ?_
      rw [e1]
      refine w_icmp_ge (tgt := 172) dL_rule_132 (by decide) (fun c_132 => absurd c_132 ((nI_ge (by omega) (by omega)))) (fun c_132 => ?_)
      refine w_iload_n dL_rule_135 rfl ?_
      refine w_iconst (v := 1) dL_rule_136 (by decide) ?_
      refine w_aload_n dL_rule_137 rfl ?_
      refine w_bipush (v := 12) dL_rule_138 (by decide) ?_
      refine w_bipush (v := 10) dL_rule_140 (by decide) ?_
      refine w_iload_n dL_rule_142 rfl ?_
      refine w_imul dL_rule_143 ?_
      refine w_iadd dL_rule_144 ?_
      rw [e12]
      refine w_iload dL_rule_145 rfl ?_
      refine w_iadd dL_rule_147 ?_
      rw [e13]
      refine w_iconst (v := 4) dL_rule_148 (by decide) ?_
      refine y_callS dL_rule_149 lk_L_28 [.ref 1000, .int (nI (12 + 10 * k + i)), .int (nI 4)] rfl (c_L_pick E l _ hL (by omega) (by decide) (by decide)) rfl ⟨⟨by decide, by decide⟩, (show 4 + 2 * i + 0 + 0 ≤ 16 by omega), (show 568 + 284 * i + 0 + 0 ≤ 2272 by omega)⟩ (lb rfl) ?_
      refine w_iadd dL_rule_152 ?_
      rw [e14]
      refine w_iadd dL_rule_153 ?_
      rw [e15]
      refine w_istore_n dL_rule_154 (by decide) rfl ?_
      refine w_aload_n dL_rule_155 rfl ?_
      refine w_ldcS (i := 11) (tx := " ") dL_rule_156 (by decide +kernel) (by decide) ?_
      refine a_str (i := 11) dL_rule_158 lk_L_17 hv h9 (by decide) (by omega) ⟨⟨by decide, by decide⟩, (show 4 + 2 * i + 0 + 0 + 1 ≤ 16 by omega), (show 568 + 284 * i + 0 + 0 + 142 ≤ 2272 by omega)⟩ (lb rfl) (fun I8 R8 k8 h8 f8 => ?_)
      rw [wn11] at h8
      refine w_iload_n dL_rule_161 rfl ?_
      refine a_num dL_rule_162 lk_L_42 hv h8 rfl (by omega) (by rw [List.length_append, List.length_singleton]; omega) ⟨⟨by decide, by decide⟩, (show 4 + 2 * i + 0 + 0 + 1 + 1 ≤ 16 by omega), (show 568 + 284 * i + 0 + 0 + 142 + 142 ≤ 2272 by omega)⟩ (lb rfl) (fun I7 R7 k7 h7 f7 => ?_)
      refine w_pop dL_rule_165 rfl ?_
      refine w_iinc (v := nI (i + 1)) dL_rule_166 rfl (nI_inc _) (by decide) rfl ?_
      refine w_goto (tgt := 116) dL_rule_169 (by decide) ?_
      refine w_lv [4, 3, 0, 1, 2] (w_wid (uc' := 4 + 2 * (i + 1)) (us' := 568 + 284 * (i + 1)) (by omega) (by omega) (ih (i + 1) (by omega) I7 R7 k7 ?_ ((f9.trans f8).trans f7)))
      rw [amV, amsT_app, ← List.append_assoc, ← List.append_assoc]
      exact h7
  refine w_aload_n dL_rule_0 rfl ?_
  refine w_ldcS (i := 10) (tx := "rule ") dL_rule_1 (by decide +kernel) (by decide) ?_
  refine a_str (i := 10) dL_rule_3 lk_L_17 hv h (by decide) (by omega) ⟨⟨by decide, by decide⟩, by decide, by decide⟩ (lb rfl) (fun I1 R1 k1 h1 f1 => ?_)
  rw [wn10] at h1
  refine w_bipush (v := 97) dL_rule_6 (by decide) ?_
  refine w_iload_n dL_rule_8 rfl ?_
  refine w_iadd dL_rule_9 ?_
  rw [e97]
  refine w_i2c dL_rule_10 ?_
  rw [i2c_ok _ (by omega)]
  refine a_chr dL_rule_11 lk_L_23 hv h1 rfl (by omega) (by simp only [List.length_append, List.length_cons, List.length_nil]; omega) ⟨⟨by decide, by decide⟩, by decide, by decide⟩ (lb rfl) (fun I2 R2 k2 h2 f2 => ?_)
  refine w_ldcS (i := 11) (tx := " ") dL_rule_14 (by decide +kernel) (by decide) ?_
  refine a_str (i := 11) dL_rule_16 lk_L_17 hv h2 (by decide) (by simp only [List.length_append, List.length_cons, List.length_nil]; omega) ⟨⟨by decide, by decide⟩, by decide, by decide⟩ (lb rfl) (fun I3 R3 k3 h3 f3 => ?_)
  rw [wn11] at h3
  refine w_pop dL_rule_19 rfl ?_
  refine w_aload_n dL_rule_20 rfl ?_
  refine w_bipush (v := 10) dL_rule_21 (by decide) ?_
  refine w_bipush (v := 10) dL_rule_23 (by decide) ?_
  refine w_iload_n dL_rule_25 rfl ?_
  refine w_imul dL_rule_26 ?_
  refine w_iadd dL_rule_27 ?_
  rw [e10]
  refine w_bipush (v := 6) dL_rule_28 (by decide) ?_
  refine y_callS dL_rule_30 lk_L_28 [.ref 1000, .int (nI (10 + 10 * k)), .int (nI 6)] rfl (c_L_pick E l _ hL (by omega) (by decide) (by decide)) rfl ⟨⟨by decide, by decide⟩, by decide, by decide⟩ (lb rfl) ?_
  have hlen : (T ++ (wRu ++ [32]) ++ [97 + k] ++ [32]).length ≤ T.length + 7 := by simp only [List.length_append, List.length_cons, List.length_nil]; omega
  rcases (show pkV E (10 + 10 * k) 6 = 0 ∨ pkV E (10 + 10 * k) 6 = 1 ∨ pkV E (10 + 10 * k) 6 = 2 ∨ pkV E (10 + 10 * k) 6 = 3 ∨ 4 ≤ pkV E (10 + 10 * k) 6 by omega) with q | q | q | q | q
  · rw [q]
    refine w_tblIn (off := 31) (tgt := 64) dL_rule_33 (by decide) (by decide) (by decide) (by decide) ?_
    refine w_aload_n dL_rule_64 rfl ?_
    refine w_ldcS (i := 12) (tx := "divisors;") dL_rule_65 (by decide +kernel) (by decide) ?_
    refine a_str (i := 12) dL_rule_67 lk_L_17 hv h3 (by decide) (by omega) ⟨⟨by decide, by decide⟩, by decide, by decide⟩ (lb rfl) (fun I4 R4 k4 h4 f4 => ?_)
    rw [wn12] at h4
    refine w_pop dL_rule_70 rfl ?_
    refine w_goto (tgt := 179) dL_rule_71 (by decide) ?_
    refine fin _ _ I4 R4 k4 _ ?_ (((f1.trans f2).trans f3).trans f4) (by decide) (by decide)
    have e : T ++ ruL E k = T ++ (wRu ++ [32]) ++ [97 + k] ++ [32] ++ (kdW (pkV E (10 + 10 * k) 6) ++ [59]) := by unfold ruL ruB; rw [if_pos (by omega)]; simp
    rw [e, q]
    exact h4
  · rw [q]
    refine w_tblIn (off := 41) (tgt := 74) dL_rule_33 (by decide) (by decide) (by decide) (by decide) ?_
    refine w_aload_n dL_rule_74 rfl ?_
    refine w_ldcS (i := 13) (tx := "half;") dL_rule_75 (by decide +kernel) (by decide) ?_
    refine a_str (i := 13) dL_rule_77 lk_L_17 hv h3 (by decide) (by omega) ⟨⟨by decide, by decide⟩, by decide, by decide⟩ (lb rfl) (fun I4 R4 k4 h4 f4 => ?_)
    rw [wn13] at h4
    refine w_pop dL_rule_80 rfl ?_
    refine w_goto (tgt := 179) dL_rule_81 (by decide) ?_
    refine fin _ _ I4 R4 k4 _ ?_ (((f1.trans f2).trans f3).trans f4) (by decide) (by decide)
    have e : T ++ ruL E k = T ++ (wRu ++ [32]) ++ [97 + k] ++ [32] ++ (kdW (pkV E (10 + 10 * k) 6) ++ [59]) := by unfold ruL ruB; rw [if_pos (by omega)]; simp
    rw [e, q]
    exact h4
  · rw [q]
    refine w_tblIn (off := 51) (tgt := 84) dL_rule_33 (by decide) (by decide) (by decide) (by decide) ?_
    refine w_aload_n dL_rule_84 rfl ?_
    refine w_ldcS (i := 14) (tx := "powers;") dL_rule_85 (by decide +kernel) (by decide) ?_
    refine a_str (i := 14) dL_rule_87 lk_L_17 hv h3 (by decide) (by omega) ⟨⟨by decide, by decide⟩, by decide, by decide⟩ (lb rfl) (fun I4 R4 k4 h4 f4 => ?_)
    rw [wn14] at h4
    refine w_pop dL_rule_90 rfl ?_
    refine w_goto (tgt := 179) dL_rule_91 (by decide) ?_
    refine fin _ _ I4 R4 k4 _ ?_ (((f1.trans f2).trans f3).trans f4) (by decide) (by decide)
    have e : T ++ ruL E k = T ++ (wRu ++ [32]) ++ [97 + k] ++ [32] ++ (kdW (pkV E (10 + 10 * k) 6) ++ [59]) := by unfold ruL ruB; rw [if_pos (by omega)]; simp
    rw [e, q]
    exact h4
  · rw [q]
    refine w_tblIn (off := 61) (tgt := 94) dL_rule_33 (by decide) (by decide) (by decide) (by decide) ?_
    refine w_aload_n dL_rule_94 rfl ?_
    refine w_ldcS (i := 15) (tx := "squares;") dL_rule_95 (by decide +kernel) (by decide) ?_
    refine a_str (i := 15) dL_rule_97 lk_L_17 hv h3 (by decide) (by omega) ⟨⟨by decide, by decide⟩, by decide, by decide⟩ (lb rfl) (fun I4 R4 k4 h4 f4 => ?_)
    rw [wn15] at h4
    refine w_pop dL_rule_100 rfl ?_
    refine w_goto (tgt := 179) dL_rule_101 (by decide) ?_
    refine fin _ _ I4 R4 k4 _ ?_ (((f1.trans f2).trans f3).trans f4) (by decide) (by decide)
    have e : T ++ ruL E k = T ++ (wRu ++ [32]) ++ [97 + k] ++ [32] ++ (kdW (pkV E (10 + 10 * k) 6) ++ [59]) := by unfold ruL ruB; rw [if_pos (by omega)]; simp
    rw [e, q]
    exact h4
  · refine w_tblOut (tgt := 104) dL_rule_33 (Or.inr (by rw [nI_toInt (by omega)]; omega)) (by decide) ?_
    refine w_aload_n dL_rule_104 rfl ?_
    refine w_ldcS (i := 5) (tx := "take") dL_rule_105 (by decide +kernel) (by decide) ?_
    refine a_str (i := 5) dL_rule_107 lk_L_17 hv h3 (by decide) (by omega) ⟨⟨by decide, by decide⟩, by decide, by decide⟩ (lb rfl) (fun I4 R4 k4 h4 f4 => ?_)
    rw [wn5] at h4
    refine w_pop dL_rule_110 rfl ?_
    refine w_iconst (v := 0) dL_rule_111 (by decide) ?_
    refine w_istore_n dL_rule_112 (by decide) rfl ?_
    refine w_iconst (v := 0) dL_rule_113 (by decide) ?_
    refine w_istore dL_rule_114 (by decide) rfl ?_
    refine w_lv [4, 3, 0, 1, 2] (loop q _ 0 (Nat.zero_add _) I4 R4 k4 ?_ (((f1.trans f2).trans f3).trans f4))
    show sbL I4 J R4 D (T ++ (wRu ++ [32]) ++ [97 + k] ++ [32] ++ wTa ++ []) k4
    rw [List.append_nil]
    exact h4
end RU
