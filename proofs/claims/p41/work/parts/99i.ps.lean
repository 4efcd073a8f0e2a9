/-! isPosition -/
theorem b2i_1 {b : Bool} : b2i b = 1 ↔ b = true := by cases b <;> simp [b2i]
theorem wn_step (os : List Rs) (i : Nat) : nI (wnF os i) + (if (os.getD i dR).1 then (0 : Int32) else 1) = nI (wnF os (i + 1)) := by
  rw [wnF]
  by_cases hq : (os.getD i dR).1 = true
  · rw [if_pos hq]
    have e : (if (os.getD i (false, 0, 0)).1 = true then (0 : Nat) else 1) = 0 := if_pos hq
    rw [e, Nat.add_zero]
    show nI _ + nI 0 = _
    rw [nI_add, Nat.add_zero]
  · rw [if_neg hq]
    have e : (if (os.getD i (false, 0, 0)).1 = true then (0 : Nat) else 1) = 1 := if_neg hq
    rw [e]
    exact nI_add _ 1
theorem mn_nI {x y : Nat} (hx : x < 2 ^ 31) (hy : y < 2 ^ 31) : (if nI y < nI x then nI y else nI x) = nI (min x y) := by
  by_cases q : nI y < nI x
  · rw [if_pos q, Nat.min_eq_right (Nat.le_of_lt (n_lt q))]
  · rw [if_neg q, Nat.min_eq_left (n_nlt q)]
theorem mx_nI {x y : Nat} (hx : x < 2 ^ 31) (hy : y < 2 ^ 31) : (if nI x < nI y then nI y else nI x) = nI (max x y) := by
  by_cases q : nI x < nI y
  · rw [if_pos q, Nat.max_eq_right (Nat.le_of_lt (n_lt q))]
  · rw [if_neg q, Nat.max_eq_left (n_nlt q)]
theorem mxF_lt {os : List Rs} (hb : ∀ x ∈ os, x.2.1 < 63) : ∀ i, i ≤ os.length → mxF os i < 63
  | 0, _ => (by decide : 0 < 63)
  | i + 1, h => by rw [mxF]; have := mxF_lt hb i (by omega); have := hb _ (getD_mem (os := os) (i := i) (by omega)); omega
theorem lmF_lt (os : List Rs) : ∀ i, lmF os i ≤ 1000
  | 0 => Nat.le_refl _
  | i + 1 => by rw [lmF]; have := lmF_lt os i; split <;> omega
theorem rC.up {I : Nat → Nat → Int32} {J : Nat → Nat → Int64} {sw : Bool} {A : AS} {n j : Nat} {x : Int32} (h : rC I J sw A n) : rC (up2 I 79 j x) J sw A n :=
  h.fl (fun o ho => by funext b; exact up2_n _ _ (by omega)) (fun _ _ => rfl)
theorem one_ad (x : Nat) : (1 : Int32) + nI x = nI (1 + x) := nI_add 1 x
/-- the law looks at a position and it stands -/
def posZ (sw : Bool) (A : AS) (n : Nat) : GZ := fun o w => ∃ I' J' R' D', o = .inr (some (.int 1)) ∧ w = (I', J', R', D', 79, false) ∧ lk R' 79 sw ∧ g_bd 79 R' ∧ rC I' J' sw A (n + 2000)
theorem ht_up {os : List Rs} {i v : Nat} {I : Nat → Nat → Int32} (h : I 79 v = b2i (htF os v i)) : up2 I 79 (os.getD i dR).2.2 (Int32.ofInt 1) 79 v = b2i (htF os v (i + 1)) := by
  rw [htF]
  by_cases q : (os.getD i dR).2.2 = v
  · rw [q, up2_s, decide_eq_true rfl, Bool.or_true]
    rfl
  · rw [up2_n _ _ (fun p => q p.2.symm), decide_eq_false q, Bool.or_false]
    exact h
section PSB
variable (E : GE) (l : Launch) {Φ : List Frame → Array Value → State → State → Prop}
variable {I9 : Nat → Nat → Int32} {J : Nat → Nat → Int64} {R : Nat → Nat → Option Nat} {D : Nat → Nat → UInt64} {sw : Bool} {A : AS} {n m v : Nat} {x : Int32}
abbrev psR : Room := { frames := 7, cells := 1, slots := 128, locals := 165 }
abbrev psW (A : AS) : Bool := (val A.cf A.st.pos).1
abbrev psL (A : AS) : Nat := (val A.cf A.st.pos).2.1
abbrev psFin (E : GE) (l : Launch) (Φ : List Frame → Array Value → State → State → Prop) (J : Nat → Nat → Int64) (R : Nat → Nat → Option Nat) (D : Nat → Nat → UInt64) (sw : Bool) (A : AS) (n : Nat) : Prop := ∀ I', rC I' J sw A (n + 2000) → g_Wp E l mL_isPosition psR Φ 1 128 273 [] [.int 1] (I', J, R, D, 80, true)
set_option maxRecDepth 100000 in
theorem ps_c (hl : lk R 80 sw) (hn : n < 90000) (fin : psFin E l Φ J R D sw A n) (hm : m ≤ n + 1100) (h9 : rC I9 J sw A m) (hv9 : (val A.cf A.st.pos).2.2 = v) : g_Wp E l mL_isPosition psR Φ 1 128 167 [(6, .int (b2i (psW A))), (2, .int (nI (wnF (psO A) (psM A)))), (5, .int (nI v)), (0, .ref 0)] [.int (nI (psL A))] (I9, J, R, D, 80, true) := by
  have hM81 := h9.m4.2.2
  refine w_istore dL_isPosition_167 (by decide) rfl ?_
  refine w_aload_n dL_isPosition_169 rfl ?_
  refine v_callV dL_isPosition_170 lk_L_95 [] rfl (q_value E l hl h9 (by omega)) (g_recv.obj (ci := 6) rfl (by decide) (show 0 < 80 by decide)) rfl ⟨⟨by decide, by decide⟩, by decide, by decide⟩ (lb rfl) (fun x_170 I1 h_170 => ?_)
  obtain ⟨hx, f1, h1⟩ := h_170
  subst hx
  refine w_iload dL_isPosition_173 rfl ?_
  refine w_icmp_ne (tgt := 204) dL_isPosition_175 (by decide) (fun c_175 => absurd ((congrArg nI hv9)) c_175) (fun c_175 => ?_)
  refine w_aload_n dL_isPosition_178 rfl ?_
  refine v_callV dL_isPosition_179 lk_L_98 [] rfl (q_isWon E l hl h1 (by omega)) (g_recv.obj (ci := 6) rfl (by decide) (show 0 < 80 by decide)) rfl ⟨⟨by decide, by decide⟩, by decide, by decide⟩ (lb rfl) (fun x_179 I2 h_179 => ?_)
  obtain ⟨hx, f2, h2⟩ := h_179
  subst hx
  refine w_iload dL_isPosition_182 rfl ?_
  refine w_icmp_ne (tgt := 204) dL_isPosition_184 (by decide) (fun c_184 => absurd (rfl) c_184) (fun c_184 => ?_)
  refine w_aload_n dL_isPosition_187 rfl ?_
  refine v_callV dL_isPosition_188 lk_L_102 [] rfl (q_length E l hl h2 (by omega)) (g_recv.obj (ci := 6) rfl (by decide) (show 0 < 80 by decide)) rfl ⟨⟨by decide, by decide⟩, by decide, by decide⟩ (lb rfl) (fun x_188 I3 h_188 => ?_)
  obtain ⟨hx, f3, h3⟩ := h_188
  subst hx
  refine w_iload dL_isPosition_191 rfl ?_
  refine w_icmp_ne (tgt := 204) dL_isPosition_193 (by decide) (fun c_193 => absurd (rfl) c_193) (fun c_193 => ?_)
  refine w_aload_n dL_isPosition_196 rfl ?_
  refine v_callV dL_isPosition_197 lk_L_103 [] rfl (q_winning E l hl h3 (by omega)) (g_recv.obj (ci := 6) rfl (by decide) (show 0 < 80 by decide)) rfl ⟨⟨by decide, by decide⟩, by decide, by decide⟩ (lb rfl) (fun x_197 I4 h_197 => ?_)
  obtain ⟨hx, f4, h4⟩ := h_197
  subst hx
  refine w_iload_n dL_isPosition_200 rfl ?_
  refine w_icmp_eq (tgt := 206) dL_isPosition_201 (by decide) (fun c_201 => ?_) (fun c_201 => absurd (rfl) c_201)
  refine w_aload_n dL_isPosition_206 rfl ?_
  refine v_callV dL_isPosition_207 lk_L_80 [] rfl (q_moves E l hl h4 (by omega)) (g_recv.obj (ci := 6) rfl (by decide) (show 0 < 80 by decide)) rfl ⟨⟨by decide, by decide⟩, by decide, by decide⟩ (lb rfl) (fun x_207 I5 h_207 => ?_)
  obtain ⟨hx, f5, h5⟩ := h_207
  subst hx
  by_cases hM : psM A = 0
  · refine w_if_ne (tgt := 229) dL_isPosition_210 (by decide) (fun q => absurd (congrArg nI hM) q) (fun _ => ?_)
    refine w_aload_n dL_isPosition_213 rfl ?_
    refine v_callV dL_isPosition_214 lk_L_106 [] rfl (q_best E l hl h5 (by omega)) (g_recv.obj (ci := 6) rfl (by decide) (show 0 < 80 by decide)) rfl ⟨⟨by decide, by decide⟩, by decide, by decide⟩ (lb rfl) (fun x_214 I6 h_214 => ?_)
    obtain ⟨hx, f6, h6⟩ := h_214
    subst hx
    refine w_iconst (v := (-1)) dL_isPosition_217 (by decide) ?_
    refine w_icmp_ne (tgt := 225) dL_isPosition_218 (by decide) (fun c_218 => absurd ((by rw [hM]; rfl)) c_218) (fun c_218 => ?_)
    refine w_iconst (v := 1) dL_isPosition_221 (by decide) ?_
    refine w_goto (tgt := 273) dL_isPosition_222 (by decide) ?_
    exact w_lv [] (fin _ (h6.mono (by omega)))
  · refine w_if_ne (tgt := 229) dL_isPosition_210 (by decide) (fun _ => ?_) (fun q => absurd (n_eq (b := 0) q) hM)
    obtain ⟨b, hb, hbM, hb1, hb2⟩ := ps_best h9 hM
    refine w_aload_n dL_isPosition_229 rfl ?_
    refine w_aload_n dL_isPosition_230 rfl ?_
    refine v_callV dL_isPosition_231 lk_L_106 [] rfl (q_best E l hl h5 (by omega)) (g_recv.obj (ci := 6) rfl (by decide) (show 0 < 80 by decide)) rfl ⟨⟨by decide, by decide⟩, by decide, by decide⟩ (lb rfl) (fun x_231 I6 h_231 => ?_)
    obtain ⟨hx, f6, h6⟩ := h_231
    subst hx
    rw [hb]
    refine w_bipush (v := 6) dL_isPosition_234 (by decide) ?_
    refine v_callV dL_isPosition_236 lk_L_83 [.int (nI b), .int (nI 6)] rfl (q_move6 E l hl h6 (by omega) hbM) (g_recv.obj (ci := 6) rfl (by decide) (show 0 < 80 by decide)) rfl ⟨⟨by decide, by decide⟩, by decide, by decide⟩ (lb rfl) (fun x_236 I7 h_236 => ?_)
    obtain ⟨hx, f7, h7⟩ := h_236
    subst hx
    refine w_iload dL_isPosition_239 rfl ?_
    refine w_iconst (v := 1) dL_isPosition_241 (by decide) ?_
    refine w_isub dL_isPosition_242 ?_
    refine w_icmp_ne (tgt := 272) dL_isPosition_243 (by decide) (fun c_243 => absurd ((by unfold psL; rw [← hb1]; exact (pk_sub (a := _ + 1) (b := 1) (Nat.le_add_left 1 _)).symm)) c_243) (fun c_243 => ?_)
    refine w_aload_n dL_isPosition_246 rfl ?_
    refine w_aload_n dL_isPosition_247 rfl ?_
    refine v_callV dL_isPosition_248 lk_L_106 [] rfl (q_best E l hl h7 (by omega)) (g_recv.obj (ci := 6) rfl (by decide) (show 0 < 80 by decide)) rfl ⟨⟨by decide, by decide⟩, by decide, by decide⟩ (lb rfl) (fun x_248 I8 h_248 => ?_)
    obtain ⟨hx, f8, h8⟩ := h_248
    subst hx
    rw [hb]
    refine w_iconst (v := 5) dL_isPosition_251 (by decide) ?_
    refine v_callV dL_isPosition_252 lk_L_83 [.int (nI b), .int (nI 5)] rfl (q_move5 E l hl h8 (by omega) hbM) (g_recv.obj (ci := 6) rfl (by decide) (show 0 < 80 by decide)) rfl ⟨⟨by decide, by decide⟩, by decide, by decide⟩ (lb rfl) (fun x_252 Ia h_252 => ?_)
    obtain ⟨hx, fa, ha⟩ := h_252
    subst hx
    refine w_iload dL_isPosition_255 rfl ?_
    refine w_if_eq (tgt := 264) dL_isPosition_257 (by decide) (fun c_257 => ?_) (fun c_257 => ?_)
    · refine w_iconst (v := 0) dL_isPosition_264 (by decide) ?_
      refine w_icmp_ne (tgt := 272) dL_isPosition_265 (by decide) (fun c_265 => absurd ((by rw [hb2]; first | (rw [show (val A.cf A.st.pos).1 = false from b2i_0.mp c_257]; rfl) | (rw [show (val A.cf A.st.pos).1 = true from b2i_ne.mp c_257]; rfl))) c_265) (fun c_265 => ?_)
      refine w_iconst (v := 1) dL_isPosition_268 (by decide) ?_
      refine w_goto (tgt := 273) dL_isPosition_269 (by decide) ?_
      exact w_lv [] (fin _ (ha.mono (by omega)))
    · refine w_iconst (v := 1) dL_isPosition_260 (by decide) ?_
      refine w_goto (tgt := 265) dL_isPosition_261 (by decide) ?_
      refine w_icmp_ne (tgt := 272) dL_isPosition_265 (by decide) (fun c_265 => absurd ((by rw [hb2]; first | (rw [show (val A.cf A.st.pos).1 = false from b2i_0.mp c_257]; rfl) | (rw [show (val A.cf A.st.pos).1 = true from b2i_ne.mp c_257]; rfl))) c_265) (fun c_265 => ?_)
      refine w_iconst (v := 1) dL_isPosition_268 (by decide) ?_
      refine w_goto (tgt := 273) dL_isPosition_269 (by decide) ?_
      exact w_lv [] (fin _ (ha.mono (by omega)))
set_option maxRecDepth 100000 in
theorem ps_j (hl : lk R 80 sw) (hn : n < 90000) (fin : psFin E l Φ J R D sw A n) (hm : m ≤ n + 1099) (h9 : rC I9 J sw A m) (hv9 : (val A.cf A.st.pos).2.2 = v) (hx : x = b2i (psW A)) : g_Wp E l mL_isPosition psR Φ 1 128 141 [(2, .int (nI (wnF (psO A) (psM A)))), (3, .int (nI (lmF (psO A) (psM A)))), (4, .int (nI (mxF (psO A) (psM A)))), (5, .int (nI v)), (0, .ref 0)] [.int x] (I9, J, R, D, 80, true) := by
  subst hx
  have hM81 := h9.m4.2.2
  refine w_istore dL_isPosition_141 (by decide) rfl ?_
  refine w_aload_n dL_isPosition_143 rfl ?_
  refine v_callV dL_isPosition_144 lk_L_80 [] rfl (q_moves E l hl h9 (by omega)) (g_recv.obj (ci := 6) rfl (by decide) (show 0 < 80 by decide)) rfl ⟨⟨by decide, by decide⟩, by decide, by decide⟩ (lb rfl) (fun x_144 I1 h_144 => ?_)
  obtain ⟨hx, f1, h1⟩ := h_144
  subst hx
  by_cases hM : psM A = 0
  · refine w_if_ne (tgt := 154) dL_isPosition_147 (by decide) (fun q => absurd (congrArg nI hM) q) (fun _ => ?_)
    have e0 : psL A = 0 := (ps_end h9.m4.1 hM).2
    refine w_iconst (v := 0) dL_isPosition_150 (by decide) ?_
    refine w_goto (tgt := 167) dL_isPosition_151 (by decide) ?_
    have c := ps_c E l hl hn fin (by omega) h1 hv9
    rw [e0] at c
    exact w_lv [6, 2, 5, 0] c
  · refine w_if_ne (tgt := 154) dL_isPosition_147 (by decide) (fun _ => ?_) (fun q => absurd (n_eq (b := 0) q) hM)
    obtain ⟨w1, w2⟩ := ps_won h9 hM
    have eT : psW A = true → (1 : Int32) + nI (lmF (psO A) (psM A)) = nI (psL A) := fun q => by
      rw [one_ad]
      unfold psL
      rw [w2, if_pos (of_decide_eq_true (w1 ▸ q))]
    have eF : psW A = false → (1 : Int32) + nI (mxF (psO A) (psM A)) = nI (psL A) := fun q => by
      rw [one_ad]
      unfold psL
      rw [w2, if_neg (of_decide_eq_false (w1 ▸ q))]
    refine w_iconst (v := 1) dL_isPosition_154 (by decide) ?_
    refine w_iload dL_isPosition_155 rfl ?_
    refine w_if_eq (tgt := 164) dL_isPosition_157 (by decide) (fun c_157 => ?_) (fun c_157 => ?_)
    · refine w_iload dL_isPosition_164 rfl ?_
      refine w_iadd dL_isPosition_166 ?_
      first | rw [eF (b2i_0.mp c_157)] | rw [eT (b2i_ne.mp c_157)]
      exact w_lv [6, 2, 5, 0] (ps_c E l hl hn fin (by omega) h1 hv9)
    · refine w_iload_n dL_isPosition_160 rfl ?_
      refine w_goto (tgt := 166) dL_isPosition_161 (by decide) ?_
      refine w_iadd dL_isPosition_166 ?_
      first | rw [eF (b2i_0.mp c_157)] | rw [eT (b2i_ne.mp c_157)]
      exact w_lv [6, 2, 5, 0] (ps_c E l hl hn fin (by omega) h1 hv9)
set_option maxRecDepth 100000 in
theorem ps_b (hl : lk R 80 sw) (hn : n < 90000) (fin : psFin E l Φ J R D sw A n) (hm : m ≤ n + 1000) (h9 : rC I9 J sw A m) (h1 : ∀ j, j < v → htF (psO A) j (psM A) = true) (h2 : htF (psO A) v (psM A) = false) : g_Wp E l mL_isPosition psR Φ 1 128 108 [(2, .int (nI (wnF (psO A) (psM A)))), (3, .int (nI (lmF (psO A) (psM A)))), (4, .int (nI (mxF (psO A) (psM A)))), (5, .int (nI v)), (0, .ref 0)] [] (I9, J, R, D, 80, true) := by
  have hv9 := ps_val h9 h1 h2
  have hM81 := h9.m4.2.2
  have hwl := wnF_le (psO A) (psM A)
  refine w_aload_n dL_isPosition_108 rfl ?_
  refine v_callV dL_isPosition_109 lk_L_80 [] rfl (q_moves E l hl h9 (by omega)) (g_recv.obj (ci := 6) rfl (by decide) (show 0 < 80 by decide)) rfl ⟨⟨by decide, by decide⟩, by decide, by decide⟩ (lb rfl) (fun x_109 I3 h_109 => ?_)
  obtain ⟨hx, f3, h3⟩ := h_109
  subst hx
  by_cases hM : psM A = 0
  · refine w_if_ne (tgt := 132) dL_isPosition_112 (by decide) (fun q => absurd (congrArg nI hM) q) (fun _ => ?_)
    have e0 : psW A = A.st.mi := (ps_end h9.m4.1 hM).1
    refine w_aload_n dL_isPosition_115 rfl ?_
    refine w_iconst (v := 4) dL_isPosition_116 (by decide) ?_
    refine v_callV dL_isPosition_117 lk_L_77 [.int (nI 4)] rfl (q_size E l hl h3 (by omega) (w := 4) (by decide)) (g_recv.obj (ci := 6) rfl (by decide) (show 0 < 80 by decide)) rfl ⟨⟨by decide, by decide⟩, by decide, by decide⟩ (lb rfl) (fun x_117 I4 h_117 => ?_)
    obtain ⟨hx, f4, h4⟩ := h_117
    subst hx
    refine w_iconst (v := 1) dL_isPosition_120 (by decide) ?_
    refine w_icmp_ne (tgt := 128) dL_isPosition_121 (by decide) (fun c_121 => ?_) (fun c_121 => ?_)
    · refine w_iconst (v := 0) dL_isPosition_128 (by decide) ?_
      refine w_goto (tgt := 141) dL_isPosition_129 (by decide) ?_
      exact w_lv [2, 3, 4, 5, 0] (ps_j E l hl hn fin (by omega) h4 hv9 (by rw [e0]; first | (rw [show A.st.mi = true from b2i_1.mp c_121]; rfl) | (rw [show A.st.mi = false from by cases q : A.st.mi with | false => rfl | true => exact absurd (b2i_1.mpr q) c_121]; rfl)))
    · refine w_iconst (v := 1) dL_isPosition_124 (by decide) ?_
      refine w_goto (tgt := 141) dL_isPosition_125 (by decide) ?_
      exact w_lv [2, 3, 4, 5, 0] (ps_j E l hl hn fin (by omega) h4 hv9 (by rw [e0]; first | (rw [show A.st.mi = true from b2i_1.mp c_121]; rfl) | (rw [show A.st.mi = false from by cases q : A.st.mi with | false => rfl | true => exact absurd (b2i_1.mpr q) c_121]; rfl)))
  · refine w_if_ne (tgt := 132) dL_isPosition_112 (by decide) (fun _ => ?_) (fun q => absurd (n_eq (b := 0) q) hM)
    have w1 : psW A = _ := (ps_won h9 hM).1
    refine w_iload_n dL_isPosition_132 rfl ?_
    refine w_if_le (tgt := 140) dL_isPosition_133 (by decide) (fun c_133 => ?_) (fun c_133 => ?_)
    · refine w_iconst (v := 0) dL_isPosition_140 (by decide) ?_
      exact w_lv [2, 3, 4, 5, 0] (ps_j E l hl hn fin (by omega) h3 hv9 (by rw [w1]; first | (rw [decide_eq_false (show ¬ 0 < wnF (psO A) (psM A) from fun q => by have := n_le (b := 0) c_133; omega)]; rfl) | (rw [decide_eq_true (show 0 < wnF (psO A) (psM A) from n_nle (b := 0) c_133)]; rfl)))
    · refine w_iconst (v := 1) dL_isPosition_136 (by decide) ?_
      refine w_goto (tgt := 141) dL_isPosition_137 (by decide) ?_
      exact w_lv [2, 3, 4, 5, 0] (ps_j E l hl hn fin (by omega) h3 hv9 (by rw [w1]; first | (rw [decide_eq_false (show ¬ 0 < wnF (psO A) (psM A) from fun q => by have := n_le (b := 0) c_133; omega)]; rfl) | (rw [decide_eq_true (show 0 < wnF (psO A) (psM A) from n_nle (b := 0) c_133)]; rfl)))
set_option maxRecDepth 100000 in
theorem ps_l2 (hlv : g_lv E 79) (hl : lk R 80 sw) (hn : n < 90000) (fin : psFin E l Φ J R D sw A n) (hm : m ≤ n + 1000) (h9 : rC I9 J sw A m) (hI : ∀ v, v < 128 → I9 79 v = b2i (htF (psO A) v (psM A))) : ∀ f v, v + f = 64 → (∀ j, j < v → htF (psO A) j (psM A) = true) → g_Wp E l mL_isPosition psR Φ 1 128 95 [(2, .int (nI (wnF (psO A) (psM A)))), (3, .int (nI (lmF (psO A) (psM A)))), (4, .int (nI (mxF (psO A) (psM A)))), (5, .int (nI v)), (0, .ref 0), (1, .ref 79)] [] (I9, J, R, D, 80, true) := by
  intro f
  induction f with
  | zero =>
    intro v hv h1
    have q1 := h1 63 (by omega)
    rw [htF_big h9.bd.2 (Nat.le_refl 63) (psM A) (Nat.le_of_eq (psO_len A).symm)] at q1
    cases q1
  | succ f ih =>
    intro v hv h1
    refine w_aload_n dL_isPosition_95 rfl ?_
    refine w_iload dL_isPosition_96 rfl ?_
    refine x_zald17 (j := v) dL_isPosition_98 rfl (by decide) hlv rfl (show v < 128 by omega) ?_
    rw [hI v (by omega)]
    refine w_if_eq (tgt := 108) dL_isPosition_99 (by decide) (fun c_99 => ?_) (fun c_99 => ?_)
    · exact w_lv [2, 3, 4, 5, 0] (ps_b E l hl hn fin hm h9 h1 (b2i_0.mp c_99))
    · refine w_iinc (v := nI (v + 1)) dL_isPosition_102 rfl (nI_inc _) (by decide) rfl ?_
      refine w_goto (tgt := 95) dL_isPosition_105 (by decide) ?_
      refine w_lv [2, 3, 4, 5, 0, 1] (ih (v + 1) (by omega) (fun j hj => ?_))
      rcases Nat.lt_or_ge j v with q | q
      · exact h1 j q
      · obtain rfl : j = v := by omega
        exact b2i_ne.mp c_99
set_option maxRecDepth 100000 in
theorem ps_l1 (hlv : g_lv E 79) (hl : lk R 80 sw) (hn : n < 90000) (fin : psFin E l Φ J R D sw A n) : ∀ f i, i + f = psM A → ∀ I9, rC I9 J sw A (n + 12 * i) → (∀ v, v < 128 → I9 79 v = b2i (htF (psO A) v i)) → g_Wp E l mL_isPosition psR Φ 1 128 18 [(2, .int (nI (wnF (psO A) i))), (3, .int (nI (lmF (psO A) i))), (4, .int (nI (mxF (psO A) i))), (5, .int (nI i)), (0, .ref 0), (1, .ref 79)] [] (I9, J, R, D, 80, true) := by
  intro f
  induction f with
  | zero =>
    intro i hi I9 h9 hI
    have hM81 := h9.m4.2.2
    have ei : i = psM A := by omega
    subst ei
    refine w_iload dL_isPosition_18 rfl ?_
    refine w_aload_n dL_isPosition_20 rfl ?_
    refine v_callV dL_isPosition_21 lk_L_80 [] rfl (q_moves E l hl h9 (by omega)) (g_recv.obj (ci := 6) rfl (by decide) (show 0 < 80 by decide)) rfl ⟨⟨by decide, by decide⟩, by decide, by decide⟩ (lb rfl) (fun x_21 I1 h_21 => ?_)
    obtain ⟨hx, f1, h1⟩ := h_21
    subst hx
    refine w_icmp_ge (tgt := 92) dL_isPosition_24 (by decide) (fun c_24 => ?_) (fun c_24 => absurd ((nI_le (by omega) (by omega))) c_24)
    refine w_iconst (v := 0) dL_isPosition_92 (by decide) ?_
    refine w_istore dL_isPosition_93 (by decide) rfl ?_
    exact w_lv [2, 3, 4, 5, 0, 1] (ps_l2 E l hlv hl hn fin (by omega) h1 (fun v hv => by rw [f1 79 (Nat.le_refl _)]; exact hI v hv) 64 0 (Nat.zero_add _) (fun j hj => absurd hj (Nat.not_lt_zero _)))
  | succ f ih =>
    intro i hi I9 h9 hI
    have hM81 := h9.m4.2.2
    have hiM : i < psM A := by omega
    have hlen := psO_len A
    have b1 := h9.bd.1 _ (getD_mem (os := psO A) (i := i) (by omega))
    have b2 := h9.bd.2 _ (getD_mem (os := psO A) (i := i) (by omega))
    have b3 := lmF_lt (psO A) i
    have b4 := mxF_lt h9.bd.1 i (by omega)
    have tail : ∀ {Ia : Nat → Nat → Int32} {lm : Nat}, lm = lmF (psO A) (i + 1) → rC Ia J sw A (n + 12 * i + 9) → (∀ v, v < 128 → Ia 79 v = b2i (htF (psO A) v (i + 1))) → g_Wp E l mL_isPosition psR Φ 1 128 71 [(2, .int (nI (wnF (psO A) (i + 1)))), (3, .int (nI lm)), (4, .int (nI (mxF (psO A) i))), (5, .int (nI i)), (0, .ref 0), (1, .ref 79)] [] (Ia, J, R, D, 80, true) := by
      intro Ia lm hlm ha hIa
      subst hlm
      refine w_iload dL_isPosition_71 rfl ?_
      refine w_aload_n dL_isPosition_73 rfl ?_
      refine w_iload dL_isPosition_74 rfl ?_
      refine w_bipush (v := 6) dL_isPosition_76 (by decide) ?_
      refine v_callV dL_isPosition_78 lk_L_83 [.int (nI i), .int (nI 6)] rfl (q_move6 E l hl ha (by omega) hiM) (g_recv.obj (ci := 6) rfl (by decide) (show 0 < 80 by decide)) rfl ⟨⟨by decide, by decide⟩, by decide, by decide⟩ (lb rfl) (fun x_78 Ib h_78 => ?_)
      obtain ⟨hx, fb, hb⟩ := h_78
      subst hx
      refine w_mmax dL_isPosition_81 lk_L_92.2.2.1 (by decide) (lb rfl) (by decide) (by decide) ?_
      rw [mx_nI (by omega) (by omega)]
      refine w_istore dL_isPosition_84 (by decide) rfl ?_
      refine w_iinc (v := nI (i + 1)) dL_isPosition_86 rfl (nI_inc _) (by decide) rfl ?_
      refine w_goto (tgt := 18) dL_isPosition_89 (by decide) ?_
      exact w_lv [2, 3, 4, 5, 0, 1] (ih (i + 1) (by omega) Ib (hb.mono (by omega)) (fun v hv => by rw [fb 79 (Nat.le_refl _)]; exact hIa v hv))
    refine w_iload dL_isPosition_18 rfl ?_
    refine w_aload_n dL_isPosition_20 rfl ?_
    refine v_callV dL_isPosition_21 lk_L_80 [] rfl (q_moves E l hl h9 (by omega)) (g_recv.obj (ci := 6) rfl (by decide) (show 0 < 80 by decide)) rfl ⟨⟨by decide, by decide⟩, by decide, by decide⟩ (lb rfl) (fun x_21 I1 h_21 => ?_)
    obtain ⟨hx, f1, h1⟩ := h_21
    subst hx
    refine w_icmp_ge (tgt := 92) dL_isPosition_24 (by decide) (fun c_24 => absurd c_24 ((nI_ge (by omega) (by omega)))) (fun c_24 => ?_)
    refine w_aload_n dL_isPosition_27 rfl ?_
    refine w_aload_n dL_isPosition_28 rfl ?_
    refine w_iload dL_isPosition_29 rfl ?_
    refine w_iconst (v := 4) dL_isPosition_31 (by decide) ?_
    refine v_callV dL_isPosition_32 lk_L_83 [.int (nI i), .int (nI 4)] rfl (q_move4 E l hl h1 (by omega) hiM) (g_recv.obj (ci := 6) rfl (by decide) (show 0 < 80 by decide)) rfl ⟨⟨by decide, by decide⟩, by decide, by decide⟩ (lb rfl) (fun x_32 I2 h_32 => ?_)
    obtain ⟨hx, f2, h2⟩ := h_32
    subst hx
    refine w_iconst (v := 1) dL_isPosition_35 (by decide) ?_
    refine x_zast17 (j := ((psO A).getD i dR).2.2) dL_isPosition_36 rfl (by decide) hlv rfl (show ((psO A).getD i dR).2.2 < 128 by omega) (Or.inr rfl) ?_
    have h3 := h2.up (j := ((psO A).getD i dR).2.2) (x := Int32.ofInt 1)
    have hI3 : ∀ v, v < 128 → up2 I2 79 ((psO A).getD i dR).2.2 (Int32.ofInt 1) 79 v = b2i (htF (psO A) v (i + 1)) := fun v hv => ht_up (by rw [f2 79 (Nat.le_refl _), f1 79 (Nat.le_refl _)]; exact hI v hv)
    refine w_iload_n dL_isPosition_37 rfl ?_
    refine w_aload_n dL_isPosition_38 rfl ?_
    refine w_iload dL_isPosition_39 rfl ?_
    refine w_iconst (v := 5) dL_isPosition_41 (by decide) ?_
    refine v_callV dL_isPosition_42 lk_L_83 [.int (nI i), .int (nI 5)] rfl (q_move5 E l hl h3 (by omega) hiM) (g_recv.obj (ci := 6) rfl (by decide) (show 0 < 80 by decide)) rfl ⟨⟨by decide, by decide⟩, by decide, by decide⟩ (lb rfl) (fun x_42 I4 h_42 => ?_)
    obtain ⟨hx, f4, h4⟩ := h_42
    subst hx
    refine w_iadd dL_isPosition_45 ?_
    rw [wn_step]
    refine w_istore_n dL_isPosition_46 (by decide) rfl ?_
    refine w_aload_n dL_isPosition_47 rfl ?_
    refine w_iload dL_isPosition_48 rfl ?_
    refine w_iconst (v := 5) dL_isPosition_50 (by decide) ?_
    refine v_callV dL_isPosition_51 lk_L_83 [.int (nI i), .int (nI 5)] rfl (q_move5 E l hl h4 (by omega) hiM) (g_recv.obj (ci := 6) rfl (by decide) (show 0 < 80 by decide)) rfl ⟨⟨by decide, by decide⟩, by decide, by decide⟩ (lb rfl) (fun x_51 I5 h_51 => ?_)
    obtain ⟨hx, f5, h5⟩ := h_51
    subst hx
    have hI5 : ∀ v, v < 128 → I5 79 v = b2i (htF (psO A) v (i + 1)) := fun v hv => by rw [f5 79 (Nat.le_refl _), f4 79 (Nat.le_refl _)]; exact hI3 v hv
    refine w_iconst (v := 1) dL_isPosition_54 (by decide) ?_
    refine w_icmp_ne (tgt := 71) dL_isPosition_55 (by decide) (fun c_55 => ?_) (fun c_55 => ?_)
    · first | exact w_lv [2, 3, 4, 5, 0, 1] (tail (by rw [lmF, if_neg (fun q => by rw [if_pos q] at c_55; exact absurd c_55 (by decide))]) (h6.mono (by omega)) (fun v hv => by rw [f6 79 (Nat.le_refl _)]; exact hI5 v hv)) | exact w_lv [2, 3, 4, 5, 0, 1] (tail (by rw [lmF, if_pos (Classical.byContradiction (fun q => c_55 (if_neg q)))]) (h5.mono (by omega)) hI5)
    · refine w_iload_n dL_isPosition_58 rfl ?_
      refine w_aload_n dL_isPosition_59 rfl ?_
      refine w_iload dL_isPosition_60 rfl ?_
      refine w_bipush (v := 6) dL_isPosition_62 (by decide) ?_
      refine v_callV dL_isPosition_64 lk_L_83 [.int (nI i), .int (nI 6)] rfl (q_move6 E l hl h5 (by omega) hiM) (g_recv.obj (ci := 6) rfl (by decide) (show 0 < 80 by decide)) rfl ⟨⟨by decide, by decide⟩, by decide, by decide⟩ (lb rfl) (fun x_64 I6 h_64 => ?_)
      obtain ⟨hx, f6, h6⟩ := h_64
      subst hx
      refine w_mmin dL_isPosition_67 lk_L_87.2.2.1 (by decide) (lb rfl) (by decide) (by decide) ?_
      rw [mn_nI (by omega) (by omega)]
      refine w_istore_n dL_isPosition_70 (by decide) rfl ?_
      first | exact w_lv [2, 3, 4, 5, 0, 1] (tail (by rw [lmF, if_neg (fun q => by rw [if_pos q] at c_55; exact absurd c_55 (by decide))]) (h6.mono (by omega)) (fun v hv => by rw [f6 79 (Nat.le_refl _)]; exact hI5 v hv)) | exact w_lv [2, 3, 4, 5, 0, 1] (tail (by rw [lmF, if_pos (Classical.byContradiction (fun q => c_55 (if_neg q)))]) (h5.mono (by omega)) hI5)
end PSB
section PSE
variable (E : GE) (l : Launch)
variable {I : Nat → Nat → Int32} {J : Nat → Nat → Int64} {R : Nat → Nat → Option Nat} {D : Nat → Nat → UInt64} {sw ex : Bool} {A : AS} {n : Nat}
set_option maxRecDepth 100000 in
theorem c_L_isPosition (hl : lk R 79 sw) (hb : g_bd 79 R) (h : rC I J sw A n) (hn : n < 90000) : g_Ct E l mL_isPosition 7 165 1 128 [.ref 0] (I, J, R, D, 79, ex) (posZ sw A n) := by
  refine g_Ct.of (by decide +kernel) (lb rfl) ?_
  refine w_mv 79 79 (Nat.le_refl _) (Nat.le_refl _) (by decide) (fun o h1 h2 => by omega) hb rfl rfl (fun h9 => ?_)
  have hl1 : lk (cutR 79 R) 79 sw := hl.cg (fun o ho => cutR_o ho)
  have hb1 : g_bd 79 (cutR 79 R) := fun o b c ho hc => by rw [cutR_o ho] at hc; exact hb o b c ho hc
  have h1 : rC (cutI 79 I) (cutJ 79 J) sw A n := h.fl (fun o ho => cutI_o ho) (fun o ho => cutJ_o ho)
  have fin : psFin (g_mv E h9 79 79) l (g_Fin E (posZ sw A n) 1 128) (cutJ 79 J) (cutR 79 R) (cutD 79 D) sw A n := fun I' h2 => w_bk (m := 79) (by decide) hb1 rfl rfl (w_iret dL_isPosition_273 rfl (by rfl) ⟨_, _, _, _, rfl, rfl, hl1, hb1, h2⟩ (by decide) (by decide))
  refine w_sipush (v := 128) dL_isPosition_0 (by decide) ?_
  refine x_newarrL (c := 17) (L := 128) dL_isPosition_3 (by decide) rfl (by decide) (by decide) rfl arrc_17 rfl (cut_zf (by decide)) (by decide) (by decide) ?_
  refine w_astore_n dL_isPosition_5 (by decide) rfl ?_
  refine w_iconst (v := 0) dL_isPosition_6 (by decide) ?_
  refine w_istore_n dL_isPosition_7 (by decide) rfl ?_
  refine w_sipush (v := 1000) dL_isPosition_8 (by decide) ?_
  refine w_istore_n dL_isPosition_11 (by decide) rfl ?_
  refine w_iconst (v := 0) dL_isPosition_12 (by decide) ?_
  refine w_istore dL_isPosition_13 (by decide) rfl ?_
  refine w_iconst (v := 0) dL_isPosition_15 (by decide) ?_
  refine w_istore dL_isPosition_16 (by decide) rfl ?_
  refine w_lv [2, 3, 4, 5, 0, 1] (ps_l1 (g_mv E h9 79 79) l (mv_new (by decide) (by decide)) (hl1.mono (by decide)) (by omega) fin (psM A) 0 (Nat.zero_add _) _ h1 (fun v hv => if_neg (by decide)))
end PSE
