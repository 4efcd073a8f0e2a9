/-! HeapGamesLaw.law, the calls that do not throw -/
section CD
variable (E : GE) (l : Launch)
def ccD (μC μM : GM) (fC qC fM qM : Nat) (asC asM : List Value) (I : Nat → Nat → Int32) (J : Nat → Nat → Int64) (R : Nat → Nat → Option Nat) (D : Nat → Nat → UInt64) (ex sw : Bool) (n c : Nat) : Prop :=
  ∃ (V : Int32) (Q : (Nat → Nat → Int32) → Prop), g_Ct E l μC fC qC 0 0 asC (I, J, R, D, 102, ex) (g_ri (fun x I1 => x = V ∧ Q I1) J R D 102 ex) ∧
    ∀ I1, Q I1 → g_Ct E l μM fM qM 0 0 asM (I1, J, R, D, 102, ex) (g_ri (fun y I2 => y = V ∧ ∃ A, lwI I2 J R sw A (n + 2) (c + 1)) J R D 102 ex)
variable {I : Nat → Nat → Int32} {J : Nat → Nat → Int64} {R : Nat → Nat → Option Nat} {D : Nat → Nat → UInt64} {ex sw : Bool} {A A' : AS} {n c fC qC fM qM : Nat} {μC μM : GM} {asC asM : List Value}
theorem cd_v (hI : lwI I J R sw A n c) {V : Int32} {P : Int32 → (Nat → Nat → Int32) → Prop} (hC : g_Ct E l μC fC qC 0 0 asC (I, J, R, D, 102, ex) (g_ri P J R D 102 ex)) (hP : ∀ x I1, P x I1 → x = V ∧ frM I I1 ∧ rC I1 J sw A' (n + 2))
    (hM : ∀ I1, rM I1 A c → g_Ct E l μM fM qM 0 0 asM (I1, J, R, D, 102, ex) (g_ri (fun y I2 => y = V ∧ qP I1 A' c 0 I2) J R D 102 ex)) : ccD E l μC μM fC qC fM qM asC asM I J R D ex sw n c := by
  obtain ⟨i1, i2, i3, i4⟩ := hI
  refine ⟨V, fun I1 => frM I I1 ∧ rC I1 J sw A' (n + 2), hC.mono ?_, ?_⟩
  · rintro o w1 ⟨x, I1, z1, z2, z3⟩
    exact ⟨x, I1, z1, hP _ _ z2, z3⟩
  · rintro I1 ⟨q1, q2⟩
    refine (hM I1 (i4.fm q1)).mono ?_
    rintro o w1 ⟨y, I2, z1, ⟨z2, z3⟩, z4⟩
    exact ⟨y, I2, z1, ⟨z2, A', i1, i2, q2.fl z3.1 (fun _ _ => rfl), z3.2.2⟩, z4⟩
set_option maxRecDepth 100000 in
theorem d_nimSum (hI : lwI I J R sw A n c) (hn : n < 90000) (hc : c ≤ 1000) : ccD E l mX6_nimSum mX7_nimSum 3 63 1 22 [.ref 0] [.ref 79] I J R D ex sw n c := by
  obtain ⟨i1, i2, i3, i4⟩ := id hI
  have hA := i3.ok
  exact cd_v E l hI (is_ri E l (c_nimSum E l i1 i3)) (fun x I1 z => ⟨z.1, by rw [z.2]; exact frM.refl I, by rw [z.2]; exact i3.mono (by omega)⟩) (fun I1 hm => mq0 E l hm (m_nimSum E l i2 hA hm))
set_option maxRecDepth 100000 in
theorem d_positionValue (hI : lwI I J R sw A n c) (hn : n < 90000) (hc : c ≤ 1000) : ccD E l mX6_positionValue mX7_positionValue 6 142 5 114 [.ref 0] [.ref 79] I J R D ex sw n c := by
  obtain ⟨i1, i2, i3, i4⟩ := id hI
  have hA := i3.ok
  exact cd_v E l hI (c_positionValue E l i1 i3 (by omega)) (fun x I1 z => ⟨z.1, z.2.1.m, (i3.rd z.2.1 z.2.2).mono (by omega)⟩) (fun I1 hm => m_positionValue E l i2 hA hm hc)
set_option maxRecDepth 100000 in
theorem d_isWon (hI : lwI I J R sw A n c) (hn : n < 90000) (hc : c ≤ 1000) : ccD E l mX6_isWon mX7_isWon 6 142 5 114 [.ref 0] [.ref 79] I J R D ex sw n c := by
  obtain ⟨i1, i2, i3, i4⟩ := id hI
  have hA := i3.ok
  exact cd_v E l hI (c_isWon E l i1 i3 (by omega)) (fun x I1 z => ⟨z.1, z.2.1.m, (i3.rd z.2.1 z.2.2).mono (by omega)⟩) (fun I1 hm => m_isWon E l i2 hA hm hc)
set_option maxRecDepth 100000 in
theorem d_length (hI : lwI I J R sw A n c) (hn : n < 90000) (hc : c ≤ 1000) : ccD E l mX6_length mX7_length 6 142 5 114 [.ref 0] [.ref 79] I J R D ex sw n c := by
  obtain ⟨i1, i2, i3, i4⟩ := id hI
  have hA := i3.ok
  exact cd_v E l hI (c_length E l i1 i3 (by omega)) (fun x I1 z => ⟨z.1, z.2.1.m, (i3.rd z.2.1 z.2.2).mono (by omega)⟩) (fun I1 hm => m_length E l i2 hA hm hc)
set_option maxRecDepth 100000 in
theorem d_winning (hI : lwI I J R sw A n c) (hn : n < 90000) (hc : c ≤ 1000) : ccD E l mX6_winning mX7_winning 6 142 5 117 [.ref 0] [.ref 79] I J R D ex sw n c := by
  obtain ⟨i1, i2, i3, i4⟩ := id hI
  have hA := i3.ok
  exact cd_v E l hI (c_winning E l i1 i3 (by omega)) (fun x I1 z => ⟨z.1, z.2.1.m, (i3.rd z.2.1 z.2.2).mono (by omega)⟩) (fun I1 hm => m_winning E l i2 hA hm hc)
set_option maxRecDepth 100000 in
theorem d_lostBelow (hI : lwI I J R sw A n c) (hn : n < 90000) (hc : c ≤ 1000) : ccD E l mX6_lostBelow mX7_lostBelow 6 142 5 114 [.ref 0] [.ref 79] I J R D ex sw n c := by
  obtain ⟨i1, i2, i3, i4⟩ := id hI
  have hA := i3.ok
  exact cd_v E l hI (c_lostBelow E l i1 i3 (by omega)) (fun x I1 z => ⟨z.1, z.2.1.m, (i3.rd z.2.1 z.2.2).mono (by omega)⟩) (fun I1 hm => m_lostBelow E l i2 hA hm hc)
set_option maxRecDepth 100000 in
theorem d_moves (hI : lwI I J R sw A n c) (hn : n < 90000) (hc : c ≤ 1000) : ccD E l mX6_moves mX7_moves 5 112 6 138 [.ref 0] [.ref 79] I J R D ex sw n c := by
  obtain ⟨i1, i2, i3, i4⟩ := id hI
  have hA := i3.ok
  exact cd_v E l hI (c_moves E l i1 i3 (by omega)) (fun x I1 z => ⟨z.1, z.2.1.m, (i3.pr z.2.1 z.2.2).mono (by omega)⟩) (fun I1 hm => m_moves E l i2 hA hm)
set_option maxRecDepth 100000 in
theorem d_best (hI : lwI I J R sw A n c) (hn : n < 90000) (hc : c ≤ 1000) : ccD E l mX6_best mX7_best 6 142 6 142 [.ref 0] [.ref 79] I J R D ex sw n c := by
  obtain ⟨i1, i2, i3, i4⟩ := id hI
  have hA := i3.ok
  exact cd_v E l hI (c_best E l i1 i3 (by omega)) (fun x I1 z => ⟨z.1, z.2.2.1.m, (i3.rd z.2.2.1 z.2.2.2).mono (by omega)⟩) (fun I1 hm => m_best E l i2 hA hm hc)
set_option maxRecDepth 100000 in
theorem d_setMisere (hI : lwI I J R sw A n c) (hn : n < 90000) (hc : c ≤ 1000) (b : Bool) : ccD E l mX6_setMisere mX7_setMisere 3 102 2 46 [.ref 0, .int (b2i b)] [.ref 79, .int (b2i b)] I J R D ex sw n c := by
  obtain ⟨i1, i2, i3, i4⟩ := id hI
  have hA := i3.ok
  exact cd_v E l hI (c_setMisere E l i1 i3 b) (fun x I1 z => ⟨z.1, z.2.1, z.2.2.mono (by omega)⟩) (fun I1 hm => m_setMisere E l i2 hA hm b)
set_option maxRecDepth 100000 in
theorem d_undo (hI : lwI I J R sw A n c) (hn : n < 90000) (hc : c ≤ 1000) : ccD E l mX6_undo mX7_undo 3 102 1 25 [.ref 0] [.ref 79] I J R D ex sw n c := by
  obtain ⟨i1, i2, i3, i4⟩ := id hI
  have hA := i3.ok
  cases hh : A.hi with
  | nil => exact cd_v E l hI (is_ri E l (c_undo_no E l i1 i3 hh)) (fun x I1 z => ⟨z.1, by rw [z.2]; exact frM.refl I, by rw [z.2]; exact i3.mono (by omega)⟩) (fun I1 hm => mq0 E l hm (m_undo_no E l i2 hA hm hh))
  | cons x hi => exact cd_v E l hI (c_undo E l i1 i3 hh) (fun x I1 z => ⟨z.1, z.2.1, z.2.2.mono (by omega)⟩) (fun I1 hm => m_undo E l i2 hA hm hh)
set_option maxRecDepth 100000 in
theorem d_append (hI : lwI I J R sw A n c) (hn : n < 90000) (hc : c ≤ 1000) (p0 p1 p2 p3 p4 : Int32) : ccD E l mX6_append mX7_append 1 22 0 0 [.ref 0, .int p0, .int p1, .int p2, .int p3, .int p4] [.ref 79, .int p0, .int p1, .int p2, .int p3, .int p4] I J R D ex sw n c := by
  obtain ⟨i1, i2, i3, i4⟩ := id hI
  have hA := i3.ok
  by_cases hf : A.tl + 20 ≤ 400
  · exact cd_v E l hI (c_append E l i1 i3 hf p0 p1 p2 p3 p4) (fun x I1 z => ⟨z.1, z.2.1, z.2.2.mono (by omega)⟩) (fun I1 hm => m_append E l i2 hA hm hf p0 p1 p2 p3 p4)
  · exact cd_v E l hI (is_ri E l (c_append_no E l i1 i3 hf p0 p1 p2 p3 p4)) (fun x I1 z => ⟨z.1, by rw [z.2]; exact frM.refl I, by rw [z.2]; exact i3.mono (by omega)⟩) (fun I1 hm => mq0 E l hm (m_append_no E l i2 hA hm hf p0 p1 p2 p3 p4))
end CD
section BD
variable {E : GE} {l : Launch} {Φ : List Frame → Array Value → State → State → Prop} {uc us : Nat}
variable {I : Nat → Nat → Int32} {J : Nat → Nat → Int64} {R : Nat → Nat → Option Nat} {D : Nat → Nat → UInt64} {ex sw : Bool} {A : AS} {n c : Nat}
set_option maxRecDepth 100000 in
theorem b_append {t : Nat} (hE : E.2.2.2.2.1 ≤ 3072) (h6 : 6 * t + 5 < E.2.2.2.2.1) (hI : lwI I J R sw A n c) (hn : n < 90000) (hc : c ≤ 1000) (hu : uc + 1 ≤ 601024) (hs : us + 6 ≤ 7293034) (K : ∀ I1 J1 R1 D1 ex1 sw1 A1 mc ms, mc ≤ 1 → ms ≤ 6 → lwI I1 J1 R1 sw1 A1 (n + 2) (c + 1) → g_Wp E l mLaw rmL Φ (uc + mc) (us + ms) 2159 [(5, .int (nI (6 * t))), (4, .ref 101), (3, .ref 100), (2, .ref 79), (1, .ref 0), (0, .ref 1000)] [] (I1, J1, R1, D1, 102, ex1)) : g_Wp E l mLaw rmL Φ uc us 212 [(5, .int (nI (6 * t))), (4, .ref 101), (3, .ref 100), (2, .ref 79), (1, .ref 0), (0, .ref 1000)] [] (I, J, R, D, 102, ex) := by
  obtain ⟨V, Q, hC, hCM⟩ := d_append E l (D := D) (ex := ex) hI hn hc (E.2.2.2.2.2 (6 * t + 1)) (E.2.2.2.2.2 (6 * t + 2)) (E.2.2.2.2.2 (6 * t + 3)) (E.2.2.2.2.2 (6 * t + 4)) (E.2.2.2.2.2 (6 * t + 5))
  refine w_aload_n dL_law_212 rfl ?_
  refine w_aload_n dL_law_213 rfl ?_
  refine w_iload dL_law_214 rfl ?_
  refine w_iconst (v := 1) dL_law_216 (by decide) ?_
  refine w_iadd dL_law_217 ?_
  refine w_sld (j := (6 * t + 1)) dL_law_218 (show nI (6 * t) + nI 1 = nI (6 * t + 1) from nI_add _ _) (by omega) (by omega) ?_
  refine w_aload_n dL_law_219 rfl ?_
  refine w_iload dL_law_220 rfl ?_
  refine w_iconst (v := 2) dL_law_222 (by decide) ?_
  refine w_iadd dL_law_223 ?_
  refine w_sld (j := (6 * t + 2)) dL_law_224 (show nI (6 * t) + nI 2 = nI (6 * t + 2) from nI_add _ _) (by omega) (by omega) ?_
  refine w_aload_n dL_law_225 rfl ?_
  refine w_iload dL_law_226 rfl ?_
  refine w_iconst (v := 3) dL_law_228 (by decide) ?_
  refine w_iadd dL_law_229 ?_
  refine w_sld (j := (6 * t + 3)) dL_law_230 (show nI (6 * t) + nI 3 = nI (6 * t + 3) from nI_add _ _) (by omega) (by omega) ?_
  refine w_aload_n dL_law_231 rfl ?_
  refine w_iload dL_law_232 rfl ?_
  refine w_iconst (v := 4) dL_law_234 (by decide) ?_
  refine w_iadd dL_law_235 ?_
  refine w_sld (j := (6 * t + 4)) dL_law_236 (show nI (6 * t) + nI 4 = nI (6 * t + 4) from nI_add _ _) (by omega) (by omega) ?_
  refine w_aload_n dL_law_237 rfl ?_
  refine w_iload dL_law_238 rfl ?_
  refine w_iconst (v := 5) dL_law_240 (by decide) ?_
  refine w_iadd dL_law_241 ?_
  refine w_sld (j := (6 * t + 5)) dL_law_242 (show nI (6 * t) + nI 5 = nI (6 * t + 5) from nI_add _ _) (by omega) (by omega) ?_
  refine v_callV dL_law_243 lk_L_105 [.int (E.2.2.2.2.2 (6 * t + 1)), .int (E.2.2.2.2.2 (6 * t + 2)), .int (E.2.2.2.2.2 (6 * t + 3)), .int (E.2.2.2.2.2 (6 * t + 4)), .int (E.2.2.2.2.2 (6 * t + 5))] rfl hC (g_recv.obj (ci := 6) rfl (by decide) (show 0 < 102 by decide)) rfl ⟨⟨lb rfl, lb rfl⟩, (show uc + 0 ≤ 601024 by omega), (show us + 0 ≤ 7293034 by omega)⟩ (lb rfl) (fun x_243 I1 h_243 => ?_)
  obtain ⟨e1, q1⟩ := h_243
  rw [e1]
  have hm := hCM I1 q1
  refine w_aload_n dL_law_246 rfl ?_
  refine w_aload_n dL_law_247 rfl ?_
  refine w_iload dL_law_248 rfl ?_
  refine w_iconst (v := 1) dL_law_250 (by decide) ?_
  refine w_iadd dL_law_251 ?_
  refine w_sld (j := (6 * t + 1)) dL_law_252 (show nI (6 * t) + nI 1 = nI (6 * t + 1) from nI_add _ _) (by omega) (by omega) ?_
  refine w_aload_n dL_law_253 rfl ?_
  refine w_iload dL_law_254 rfl ?_
  refine w_iconst (v := 2) dL_law_256 (by decide) ?_
  refine w_iadd dL_law_257 ?_
  refine w_sld (j := (6 * t + 2)) dL_law_258 (show nI (6 * t) + nI 2 = nI (6 * t + 2) from nI_add _ _) (by omega) (by omega) ?_
  refine w_aload_n dL_law_259 rfl ?_
  refine w_iload dL_law_260 rfl ?_
  refine w_iconst (v := 3) dL_law_262 (by decide) ?_
  refine w_iadd dL_law_263 ?_
  refine w_sld (j := (6 * t + 3)) dL_law_264 (show nI (6 * t) + nI 3 = nI (6 * t + 3) from nI_add _ _) (by omega) (by omega) ?_
  refine w_aload_n dL_law_265 rfl ?_
  refine w_iload dL_law_266 rfl ?_
  refine w_iconst (v := 4) dL_law_268 (by decide) ?_
  refine w_iadd dL_law_269 ?_
  refine w_sld (j := (6 * t + 4)) dL_law_270 (show nI (6 * t) + nI 4 = nI (6 * t + 4) from nI_add _ _) (by omega) (by omega) ?_
  refine w_aload_n dL_law_271 rfl ?_
  refine w_iload dL_law_272 rfl ?_
  refine w_iconst (v := 5) dL_law_274 (by decide) ?_
  refine w_iadd dL_law_275 ?_
  refine w_sld (j := (6 * t + 5)) dL_law_276 (show nI (6 * t) + nI 5 = nI (6 * t + 5) from nI_add _ _) (by omega) (by omega) ?_
  refine v_callV dL_law_277 lk_L_109 [.int (E.2.2.2.2.2 (6 * t + 1)), .int (E.2.2.2.2.2 (6 * t + 2)), .int (E.2.2.2.2.2 (6 * t + 3)), .int (E.2.2.2.2.2 (6 * t + 4)), .int (E.2.2.2.2.2 (6 * t + 5))] rfl hm (g_recv.obj (ci := 7) rfl (by decide) (show 79 < 102 by decide)) rfl ⟨⟨lb rfl, lb rfl⟩, (show uc + 0 + 0 ≤ 601024 by omega), (show us + 0 + 0 ≤ 7293034 by omega)⟩ (lb rfl) (fun x_277 I2 h_277 => ?_)
  obtain ⟨e2, A2, m3⟩ := h_277
  rw [e2]
  refine w_icmp_eq (tgt := 2159) dL_law_280 (by decide) (fun c_280 => ?_) (fun c_280 => absurd (rfl) c_280)
  exact w_lv [5, 4, 3, 2, 1, 0] (K I2 J R D ex sw A2 0 0 (by decide) (by decide) m3)
set_option maxRecDepth 100000 in
theorem b_nimSum {t : Nat} (hE : E.2.2.2.2.1 ≤ 3072) (h6 : 6 * t + 5 < E.2.2.2.2.1) (hI : lwI I J R sw A n c) (hn : n < 90000) (hc : c ≤ 1000) (hu : uc + 1 ≤ 601024) (hs : us + 6 ≤ 7293034) (K : ∀ I1 J1 R1 D1 ex1 sw1 A1 mc ms, mc ≤ 1 → ms ≤ 6 → lwI I1 J1 R1 sw1 A1 (n + 2) (c + 1) → g_Wp E l mLaw rmL Φ (uc + mc) (us + ms) 2159 [(5, .int (nI (6 * t))), (4, .ref 101), (3, .ref 100), (2, .ref 79), (1, .ref 0), (0, .ref 1000)] [] (I1, J1, R1, D1, 102, ex1)) : g_Wp E l mLaw rmL Φ uc us 1192 [(5, .int (nI (6 * t))), (4, .ref 101), (3, .ref 100), (2, .ref 79), (1, .ref 0), (0, .ref 1000)] [] (I, J, R, D, 102, ex) := by
  obtain ⟨V, Q, hC, hCM⟩ := d_nimSum E l (D := D) (ex := ex) hI hn hc
  refine w_aload_n dL_law_1192 rfl ?_
  refine v_callV dL_law_1193 lk_L_158 [] rfl hC (g_recv.obj (ci := 6) rfl (by decide) (show 0 < 102 by decide)) rfl ⟨⟨lb rfl, lb rfl⟩, (show uc + 0 ≤ 601024 by omega), (show us + 0 ≤ 7293034 by omega)⟩ (lb rfl) (fun x_1193 I1 h_1193 => ?_)
  obtain ⟨e1, q1⟩ := h_1193
  rw [e1]
  have hm := hCM I1 q1
  refine w_aload_n dL_law_1196 rfl ?_
  refine v_callV dL_law_1197 lk_L_161 [] rfl hm (g_recv.obj (ci := 7) rfl (by decide) (show 79 < 102 by decide)) rfl ⟨⟨lb rfl, lb rfl⟩, (show uc + 0 + 0 ≤ 601024 by omega), (show us + 0 + 0 ≤ 7293034 by omega)⟩ (lb rfl) (fun x_1197 I2 h_1197 => ?_)
  obtain ⟨e2, A2, m3⟩ := h_1197
  rw [e2]
  refine w_icmp_eq (tgt := 2159) dL_law_1200 (by decide) (fun c_1200 => ?_) (fun c_1200 => absurd (rfl) c_1200)
  exact w_lv [5, 4, 3, 2, 1, 0] (K I2 J R D ex sw A2 0 0 (by decide) (by decide) m3)
set_option maxRecDepth 100000 in
theorem b_positionValue {t : Nat} (hE : E.2.2.2.2.1 ≤ 3072) (h6 : 6 * t + 5 < E.2.2.2.2.1) (hI : lwI I J R sw A n c) (hn : n < 90000) (hc : c ≤ 1000) (hu : uc + 1 ≤ 601024) (hs : us + 6 ≤ 7293034) (K : ∀ I1 J1 R1 D1 ex1 sw1 A1 mc ms, mc ≤ 1 → ms ≤ 6 → lwI I1 J1 R1 sw1 A1 (n + 2) (c + 1) → g_Wp E l mLaw rmL Φ (uc + mc) (us + ms) 2159 [(5, .int (nI (6 * t))), (4, .ref 101), (3, .ref 100), (2, .ref 79), (1, .ref 0), (0, .ref 1000)] [] (I1, J1, R1, D1, 102, ex1)) : g_Wp E l mLaw rmL Φ uc us 1205 [(5, .int (nI (6 * t))), (4, .ref 101), (3, .ref 100), (2, .ref 79), (1, .ref 0), (0, .ref 1000)] [] (I, J, R, D, 102, ex) := by
  obtain ⟨V, Q, hC, hCM⟩ := d_positionValue E l (D := D) (ex := ex) hI hn hc
  refine w_aload_n dL_law_1205 rfl ?_
  refine v_callV dL_law_1206 lk_L_162 [] rfl hC (g_recv.obj (ci := 6) rfl (by decide) (show 0 < 102 by decide)) rfl ⟨⟨lb rfl, lb rfl⟩, (show uc + 0 ≤ 601024 by omega), (show us + 0 ≤ 7293034 by omega)⟩ (lb rfl) (fun x_1206 I1 h_1206 => ?_)
  obtain ⟨e1, q1⟩ := h_1206
  rw [e1]
  have hm := hCM I1 q1
  refine w_aload_n dL_law_1209 rfl ?_
  refine v_callV dL_law_1210 lk_L_165 [] rfl hm (g_recv.obj (ci := 7) rfl (by decide) (show 79 < 102 by decide)) rfl ⟨⟨lb rfl, lb rfl⟩, (show uc + 0 + 0 ≤ 601024 by omega), (show us + 0 + 0 ≤ 7293034 by omega)⟩ (lb rfl) (fun x_1210 I2 h_1210 => ?_)
  obtain ⟨e2, A2, m3⟩ := h_1210
  rw [e2]
  refine w_icmp_eq (tgt := 2159) dL_law_1213 (by decide) (fun c_1213 => ?_) (fun c_1213 => absurd (rfl) c_1213)
  exact w_lv [5, 4, 3, 2, 1, 0] (K I2 J R D ex sw A2 0 0 (by decide) (by decide) m3)
set_option maxRecDepth 100000 in
theorem b_isWon {t : Nat} (hE : E.2.2.2.2.1 ≤ 3072) (h6 : 6 * t + 5 < E.2.2.2.2.1) (hI : lwI I J R sw A n c) (hn : n < 90000) (hc : c ≤ 1000) (hu : uc + 1 ≤ 601024) (hs : us + 6 ≤ 7293034) (K : ∀ I1 J1 R1 D1 ex1 sw1 A1 mc ms, mc ≤ 1 → ms ≤ 6 → lwI I1 J1 R1 sw1 A1 (n + 2) (c + 1) → g_Wp E l mLaw rmL Φ (uc + mc) (us + ms) 2159 [(5, .int (nI (6 * t))), (4, .ref 101), (3, .ref 100), (2, .ref 79), (1, .ref 0), (0, .ref 1000)] [] (I1, J1, R1, D1, 102, ex1)) : g_Wp E l mLaw rmL Φ uc us 1218 [(5, .int (nI (6 * t))), (4, .ref 101), (3, .ref 100), (2, .ref 79), (1, .ref 0), (0, .ref 1000)] [] (I, J, R, D, 102, ex) := by
  obtain ⟨V, Q, hC, hCM⟩ := d_isWon E l (D := D) (ex := ex) hI hn hc
  refine w_aload_n dL_law_1218 rfl ?_
  refine v_callV dL_law_1219 lk_L_166 [] rfl hC (g_recv.obj (ci := 6) rfl (by decide) (show 0 < 102 by decide)) rfl ⟨⟨lb rfl, lb rfl⟩, (show uc + 0 ≤ 601024 by omega), (show us + 0 ≤ 7293034 by omega)⟩ (lb rfl) (fun x_1219 I1 h_1219 => ?_)
  obtain ⟨e1, q1⟩ := h_1219
  rw [e1]
  have hm := hCM I1 q1
  refine w_aload_n dL_law_1222 rfl ?_
  refine v_callV dL_law_1223 lk_L_170 [] rfl hm (g_recv.obj (ci := 7) rfl (by decide) (show 79 < 102 by decide)) rfl ⟨⟨lb rfl, lb rfl⟩, (show uc + 0 + 0 ≤ 601024 by omega), (show us + 0 + 0 ≤ 7293034 by omega)⟩ (lb rfl) (fun x_1223 I2 h_1223 => ?_)
  obtain ⟨e2, A2, m3⟩ := h_1223
  rw [e2]
  refine w_icmp_eq (tgt := 2159) dL_law_1226 (by decide) (fun c_1226 => ?_) (fun c_1226 => absurd (rfl) c_1226)
  exact w_lv [5, 4, 3, 2, 1, 0] (K I2 J R D ex sw A2 0 0 (by decide) (by decide) m3)
set_option maxRecDepth 100000 in
theorem b_length {t : Nat} (hE : E.2.2.2.2.1 ≤ 3072) (h6 : 6 * t + 5 < E.2.2.2.2.1) (hI : lwI I J R sw A n c) (hn : n < 90000) (hc : c ≤ 1000) (hu : uc + 1 ≤ 601024) (hs : us + 6 ≤ 7293034) (K : ∀ I1 J1 R1 D1 ex1 sw1 A1 mc ms, mc ≤ 1 → ms ≤ 6 → lwI I1 J1 R1 sw1 A1 (n + 2) (c + 1) → g_Wp E l mLaw rmL Φ (uc + mc) (us + ms) 2159 [(5, .int (nI (6 * t))), (4, .ref 101), (3, .ref 100), (2, .ref 79), (1, .ref 0), (0, .ref 1000)] [] (I1, J1, R1, D1, 102, ex1)) : g_Wp E l mLaw rmL Φ uc us 1231 [(5, .int (nI (6 * t))), (4, .ref 101), (3, .ref 100), (2, .ref 79), (1, .ref 0), (0, .ref 1000)] [] (I, J, R, D, 102, ex) := by
  obtain ⟨V, Q, hC, hCM⟩ := d_length E l (D := D) (ex := ex) hI hn hc
  refine w_aload_n dL_law_1231 rfl ?_
  refine v_callV dL_law_1232 lk_L_171 [] rfl hC (g_recv.obj (ci := 6) rfl (by decide) (show 0 < 102 by decide)) rfl ⟨⟨lb rfl, lb rfl⟩, (show uc + 0 ≤ 601024 by omega), (show us + 0 ≤ 7293034 by omega)⟩ (lb rfl) (fun x_1232 I1 h_1232 => ?_)
  obtain ⟨e1, q1⟩ := h_1232
  rw [e1]
  have hm := hCM I1 q1
  refine w_aload_n dL_law_1235 rfl ?_
  refine v_callV dL_law_1236 lk_L_174 [] rfl hm (g_recv.obj (ci := 7) rfl (by decide) (show 79 < 102 by decide)) rfl ⟨⟨lb rfl, lb rfl⟩, (show uc + 0 + 0 ≤ 601024 by omega), (show us + 0 + 0 ≤ 7293034 by omega)⟩ (lb rfl) (fun x_1236 I2 h_1236 => ?_)
  obtain ⟨e2, A2, m3⟩ := h_1236
  rw [e2]
  refine w_icmp_eq (tgt := 2159) dL_law_1239 (by decide) (fun c_1239 => ?_) (fun c_1239 => absurd (rfl) c_1239)
  exact w_lv [5, 4, 3, 2, 1, 0] (K I2 J R D ex sw A2 0 0 (by decide) (by decide) m3)
set_option maxRecDepth 100000 in
theorem b_moves {t : Nat} (hE : E.2.2.2.2.1 ≤ 3072) (h6 : 6 * t + 5 < E.2.2.2.2.1) (hI : lwI I J R sw A n c) (hn : n < 90000) (hc : c ≤ 1000) (hu : uc + 1 ≤ 601024) (hs : us + 6 ≤ 7293034) (K : ∀ I1 J1 R1 D1 ex1 sw1 A1 mc ms, mc ≤ 1 → ms ≤ 6 → lwI I1 J1 R1 sw1 A1 (n + 2) (c + 1) → g_Wp E l mLaw rmL Φ (uc + mc) (us + ms) 2159 [(5, .int (nI (6 * t))), (4, .ref 101), (3, .ref 100), (2, .ref 79), (1, .ref 0), (0, .ref 1000)] [] (I1, J1, R1, D1, 102, ex1)) : g_Wp E l mLaw rmL Φ uc us 1244 [(5, .int (nI (6 * t))), (4, .ref 101), (3, .ref 100), (2, .ref 79), (1, .ref 0), (0, .ref 1000)] [] (I, J, R, D, 102, ex) := by
  obtain ⟨V, Q, hC, hCM⟩ := d_moves E l (D := D) (ex := ex) hI hn hc
  refine w_aload_n dL_law_1244 rfl ?_
  refine v_callV dL_law_1245 lk_L_175 [] rfl hC (g_recv.obj (ci := 6) rfl (by decide) (show 0 < 102 by decide)) rfl ⟨⟨lb rfl, lb rfl⟩, (show uc + 0 ≤ 601024 by omega), (show us + 0 ≤ 7293034 by omega)⟩ (lb rfl) (fun x_1245 I1 h_1245 => ?_)
  obtain ⟨e1, q1⟩ := h_1245
  rw [e1]
  have hm := hCM I1 q1
  refine w_aload_n dL_law_1248 rfl ?_
  refine v_callV dL_law_1249 lk_L_178 [] rfl hm (g_recv.obj (ci := 7) rfl (by decide) (show 79 < 102 by decide)) rfl ⟨⟨lb rfl, lb rfl⟩, (show uc + 0 + 0 ≤ 601024 by omega), (show us + 0 + 0 ≤ 7293034 by omega)⟩ (lb rfl) (fun x_1249 I2 h_1249 => ?_)
  obtain ⟨e2, A2, m3⟩ := h_1249
  rw [e2]
  refine w_icmp_eq (tgt := 2159) dL_law_1252 (by decide) (fun c_1252 => ?_) (fun c_1252 => absurd (rfl) c_1252)
  exact w_lv [5, 4, 3, 2, 1, 0] (K I2 J R D ex sw A2 0 0 (by decide) (by decide) m3)
set_option maxRecDepth 100000 in
theorem b_winning {t : Nat} (hE : E.2.2.2.2.1 ≤ 3072) (h6 : 6 * t + 5 < E.2.2.2.2.1) (hI : lwI I J R sw A n c) (hn : n < 90000) (hc : c ≤ 1000) (hu : uc + 1 ≤ 601024) (hs : us + 6 ≤ 7293034) (K : ∀ I1 J1 R1 D1 ex1 sw1 A1 mc ms, mc ≤ 1 → ms ≤ 6 → lwI I1 J1 R1 sw1 A1 (n + 2) (c + 1) → g_Wp E l mLaw rmL Φ (uc + mc) (us + ms) 2159 [(5, .int (nI (6 * t))), (4, .ref 101), (3, .ref 100), (2, .ref 79), (1, .ref 0), (0, .ref 1000)] [] (I1, J1, R1, D1, 102, ex1)) : g_Wp E l mLaw rmL Φ uc us 1325 [(5, .int (nI (6 * t))), (4, .ref 101), (3, .ref 100), (2, .ref 79), (1, .ref 0), (0, .ref 1000)] [] (I, J, R, D, 102, ex) := by
  obtain ⟨V, Q, hC, hCM⟩ := d_winning E l (D := D) (ex := ex) hI hn hc
  refine w_aload_n dL_law_1325 rfl ?_
  refine v_callV dL_law_1326 lk_L_182 [] rfl hC (g_recv.obj (ci := 6) rfl (by decide) (show 0 < 102 by decide)) rfl ⟨⟨lb rfl, lb rfl⟩, (show uc + 0 ≤ 601024 by omega), (show us + 0 ≤ 7293034 by omega)⟩ (lb rfl) (fun x_1326 I1 h_1326 => ?_)
  obtain ⟨e1, q1⟩ := h_1326
  rw [e1]
  have hm := hCM I1 q1
  refine w_aload_n dL_law_1329 rfl ?_
  refine v_callV dL_law_1330 lk_L_185 [] rfl hm (g_recv.obj (ci := 7) rfl (by decide) (show 79 < 102 by decide)) rfl ⟨⟨lb rfl, lb rfl⟩, (show uc + 0 + 0 ≤ 601024 by omega), (show us + 0 + 0 ≤ 7293034 by omega)⟩ (lb rfl) (fun x_1330 I2 h_1330 => ?_)
  obtain ⟨e2, A2, m3⟩ := h_1330
  rw [e2]
  refine w_icmp_eq (tgt := 2159) dL_law_1333 (by decide) (fun c_1333 => ?_) (fun c_1333 => absurd (rfl) c_1333)
  exact w_lv [5, 4, 3, 2, 1, 0] (K I2 J R D ex sw A2 0 0 (by decide) (by decide) m3)
set_option maxRecDepth 100000 in
theorem b_best {t : Nat} (hE : E.2.2.2.2.1 ≤ 3072) (h6 : 6 * t + 5 < E.2.2.2.2.1) (hI : lwI I J R sw A n c) (hn : n < 90000) (hc : c ≤ 1000) (hu : uc + 1 ≤ 601024) (hs : us + 6 ≤ 7293034) (K : ∀ I1 J1 R1 D1 ex1 sw1 A1 mc ms, mc ≤ 1 → ms ≤ 6 → lwI I1 J1 R1 sw1 A1 (n + 2) (c + 1) → g_Wp E l mLaw rmL Φ (uc + mc) (us + ms) 2159 [(5, .int (nI (6 * t))), (4, .ref 101), (3, .ref 100), (2, .ref 79), (1, .ref 0), (0, .ref 1000)] [] (I1, J1, R1, D1, 102, ex1)) : g_Wp E l mLaw rmL Φ uc us 1338 [(5, .int (nI (6 * t))), (4, .ref 101), (3, .ref 100), (2, .ref 79), (1, .ref 0), (0, .ref 1000)] [] (I, J, R, D, 102, ex) := by
  obtain ⟨V, Q, hC, hCM⟩ := d_best E l (D := D) (ex := ex) hI hn hc
  refine w_aload_n dL_law_1338 rfl ?_
  refine v_callV dL_law_1339 lk_L_186 [] rfl hC (g_recv.obj (ci := 6) rfl (by decide) (show 0 < 102 by decide)) rfl ⟨⟨lb rfl, lb rfl⟩, (show uc + 0 ≤ 601024 by omega), (show us + 0 ≤ 7293034 by omega)⟩ (lb rfl) (fun x_1339 I1 h_1339 => ?_)
  obtain ⟨e1, q1⟩ := h_1339
  rw [e1]
  have hm := hCM I1 q1
  refine w_aload_n dL_law_1342 rfl ?_
  refine v_callV dL_law_1343 lk_L_189 [] rfl hm (g_recv.obj (ci := 7) rfl (by decide) (show 79 < 102 by decide)) rfl ⟨⟨lb rfl, lb rfl⟩, (show uc + 0 + 0 ≤ 601024 by omega), (show us + 0 + 0 ≤ 7293034 by omega)⟩ (lb rfl) (fun x_1343 I2 h_1343 => ?_)
  obtain ⟨e2, A2, m3⟩ := h_1343
  rw [e2]
  refine w_icmp_eq (tgt := 2159) dL_law_1346 (by decide) (fun c_1346 => ?_) (fun c_1346 => absurd (rfl) c_1346)
  exact w_lv [5, 4, 3, 2, 1, 0] (K I2 J R D ex sw A2 0 0 (by decide) (by decide) m3)
set_option maxRecDepth 100000 in
theorem b_lostBelow {t : Nat} (hE : E.2.2.2.2.1 ≤ 3072) (h6 : 6 * t + 5 < E.2.2.2.2.1) (hI : lwI I J R sw A n c) (hn : n < 90000) (hc : c ≤ 1000) (hu : uc + 1 ≤ 601024) (hs : us + 6 ≤ 7293034) (K : ∀ I1 J1 R1 D1 ex1 sw1 A1 mc ms, mc ≤ 1 → ms ≤ 6 → lwI I1 J1 R1 sw1 A1 (n + 2) (c + 1) → g_Wp E l mLaw rmL Φ (uc + mc) (us + ms) 2159 [(5, .int (nI (6 * t))), (4, .ref 101), (3, .ref 100), (2, .ref 79), (1, .ref 0), (0, .ref 1000)] [] (I1, J1, R1, D1, 102, ex1)) : g_Wp E l mLaw rmL Φ uc us 1407 [(5, .int (nI (6 * t))), (4, .ref 101), (3, .ref 100), (2, .ref 79), (1, .ref 0), (0, .ref 1000)] [] (I, J, R, D, 102, ex) := by
  obtain ⟨V, Q, hC, hCM⟩ := d_lostBelow E l (D := D) (ex := ex) hI hn hc
  refine w_aload_n dL_law_1407 rfl ?_
  refine v_callV dL_law_1408 lk_L_193 [] rfl hC (g_recv.obj (ci := 6) rfl (by decide) (show 0 < 102 by decide)) rfl ⟨⟨lb rfl, lb rfl⟩, (show uc + 0 ≤ 601024 by omega), (show us + 0 ≤ 7293034 by omega)⟩ (lb rfl) (fun x_1408 I1 h_1408 => ?_)
  obtain ⟨e1, q1⟩ := h_1408
  rw [e1]
  have hm := hCM I1 q1
  refine w_aload_n dL_law_1411 rfl ?_
  refine v_callV dL_law_1412 lk_L_196 [] rfl hm (g_recv.obj (ci := 7) rfl (by decide) (show 79 < 102 by decide)) rfl ⟨⟨lb rfl, lb rfl⟩, (show uc + 0 + 0 ≤ 601024 by omega), (show us + 0 + 0 ≤ 7293034 by omega)⟩ (lb rfl) (fun x_1412 I2 h_1412 => ?_)
  obtain ⟨e2, A2, m3⟩ := h_1412
  rw [e2]
  refine w_icmp_eq (tgt := 2159) dL_law_1415 (by decide) (fun c_1415 => ?_) (fun c_1415 => absurd (rfl) c_1415)
  exact w_lv [5, 4, 3, 2, 1, 0] (K I2 J R D ex sw A2 0 0 (by decide) (by decide) m3)
set_option maxRecDepth 100000 in
theorem b_setMisere {t : Nat} (hE : E.2.2.2.2.1 ≤ 3072) (h6 : 6 * t + 5 < E.2.2.2.2.1) (hI : lwI I J R sw A n c) (hn : n < 90000) (hc : c ≤ 1000) (hu : uc + 1 ≤ 601024) (hs : us + 6 ≤ 7293034) (K : ∀ I1 J1 R1 D1 ex1 sw1 A1 mc ms, mc ≤ 1 → ms ≤ 6 → lwI I1 J1 R1 sw1 A1 (n + 2) (c + 1) → g_Wp E l mLaw rmL Φ (uc + mc) (us + ms) 2159 [(5, .int (nI (6 * t))), (4, .ref 101), (3, .ref 100), (2, .ref 79), (1, .ref 0), (0, .ref 1000)] [] (I1, J1, R1, D1, 102, ex1)) : g_Wp E l mLaw rmL Φ uc us 1848 [(5, .int (nI (6 * t))), (4, .ref 101), (3, .ref 100), (2, .ref 79), (1, .ref 0), (0, .ref 1000)] [] (I, J, R, D, 102, ex) := by
  by_cases hx : E.2.2.2.2.2 (6 * t + 1) = 0
  · obtain ⟨V, Q, hC, hCM⟩ := d_setMisere E l (D := D) (ex := ex) hI hn hc false
    refine w_aload_n dL_law_1848 rfl ?_
    refine w_aload_n dL_law_1849 rfl ?_
    refine w_iload dL_law_1850 rfl ?_
    refine w_iconst (v := 1) dL_law_1852 (by decide) ?_
    refine w_iadd dL_law_1853 ?_
    refine w_sld (j := (6 * t + 1)) dL_law_1854 (show nI (6 * t) + nI 1 = nI (6 * t + 1) from nI_add _ _) (by omega) (by omega) ?_
    refine w_if_eq (tgt := 1862) dL_law_1855 (by decide) (fun c_1855 => ?_) (fun c_1855 => absurd (hx) c_1855)
    refine w_iconst (v := 0) dL_law_1862 (by decide) ?_
    refine v_callV dL_law_1863 lk_L_219 [.int (b2i false)] rfl hC (g_recv.obj (ci := 6) rfl (by decide) (show 0 < 102 by decide)) rfl ⟨⟨lb rfl, lb rfl⟩, (show uc + 0 ≤ 601024 by omega), (show us + 0 ≤ 7293034 by omega)⟩ (lb rfl) (fun x_1863 I1 h_1863 => ?_)
    obtain ⟨e1, q1⟩ := h_1863
    rw [e1]
    have hm := hCM I1 q1
    refine w_aload_n dL_law_1866 rfl ?_
    refine w_aload_n dL_law_1867 rfl ?_
    refine w_iload dL_law_1868 rfl ?_
    refine w_iconst (v := 1) dL_law_1870 (by decide) ?_
    refine w_iadd dL_law_1871 ?_
    refine w_sld (j := (6 * t + 1)) dL_law_1872 (show nI (6 * t) + nI 1 = nI (6 * t + 1) from nI_add _ _) (by omega) (by omega) ?_
    refine w_if_eq (tgt := 1880) dL_law_1873 (by decide) (fun c_1873 => ?_) (fun c_1873 => absurd (hx) c_1873)
    refine w_iconst (v := 0) dL_law_1880 (by decide) ?_
    refine v_callV dL_law_1881 lk_L_223 [.int (b2i false)] rfl hm (g_recv.obj (ci := 7) rfl (by decide) (show 79 < 102 by decide)) rfl ⟨⟨lb rfl, lb rfl⟩, (show uc + 0 + 0 ≤ 601024 by omega), (show us + 0 + 0 ≤ 7293034 by omega)⟩ (lb rfl) (fun x_1881 I2 h_1881 => ?_)
    obtain ⟨e2, A2, m3⟩ := h_1881
    rw [e2]
    refine w_icmp_eq (tgt := 2159) dL_law_1884 (by decide) (fun c_1884 => ?_) (fun c_1884 => absurd (rfl) c_1884)
    exact w_lv [5, 4, 3, 2, 1, 0] (K I2 J R D ex sw A2 0 0 (by decide) (by decide) m3)
  · obtain ⟨V, Q, hC, hCM⟩ := d_setMisere E l (D := D) (ex := ex) hI hn hc true
    refine w_aload_n dL_law_1848 rfl ?_
    refine w_aload_n dL_law_1849 rfl ?_
    refine w_iload dL_law_1850 rfl ?_
    refine w_iconst (v := 1) dL_law_1852 (by decide) ?_
    refine w_iadd dL_law_1853 ?_
    refine w_sld (j := (6 * t + 1)) dL_law_1854 (show nI (6 * t) + nI 1 = nI (6 * t + 1) from nI_add _ _) (by omega) (by omega) ?_
    refine w_if_eq (tgt := 1862) dL_law_1855 (by decide) (fun c_1855 => absurd c_1855 (hx)) (fun c_1855 => ?_)
    refine w_iconst (v := 1) dL_law_1858 (by decide) ?_
    refine w_goto (tgt := 1863) dL_law_1859 (by decide) ?_
    refine v_callV dL_law_1863 lk_L_219 [.int (b2i true)] rfl hC (g_recv.obj (ci := 6) rfl (by decide) (show 0 < 102 by decide)) rfl ⟨⟨lb rfl, lb rfl⟩, (show uc + 0 ≤ 601024 by omega), (show us + 0 ≤ 7293034 by omega)⟩ (lb rfl) (fun x_1863 I1 h_1863 => ?_)
    obtain ⟨e1, q1⟩ := h_1863
    rw [e1]
    have hm := hCM I1 q1
    refine w_aload_n dL_law_1866 rfl ?_
    refine w_aload_n dL_law_1867 rfl ?_
    refine w_iload dL_law_1868 rfl ?_
    refine w_iconst (v := 1) dL_law_1870 (by decide) ?_
    refine w_iadd dL_law_1871 ?_
    refine w_sld (j := (6 * t + 1)) dL_law_1872 (show nI (6 * t) + nI 1 = nI (6 * t + 1) from nI_add _ _) (by omega) (by omega) ?_
    refine w_if_eq (tgt := 1880) dL_law_1873 (by decide) (fun c_1873 => absurd c_1873 (hx)) (fun c_1873 => ?_)
    refine w_iconst (v := 1) dL_law_1876 (by decide) ?_
    refine w_goto (tgt := 1881) dL_law_1877 (by decide) ?_
    refine v_callV dL_law_1881 lk_L_223 [.int (b2i true)] rfl hm (g_recv.obj (ci := 7) rfl (by decide) (show 79 < 102 by decide)) rfl ⟨⟨lb rfl, lb rfl⟩, (show uc + 0 + 0 ≤ 601024 by omega), (show us + 0 + 0 ≤ 7293034 by omega)⟩ (lb rfl) (fun x_1881 I2 h_1881 => ?_)
    obtain ⟨e2, A2, m3⟩ := h_1881
    rw [e2]
    refine w_icmp_eq (tgt := 2159) dL_law_1884 (by decide) (fun c_1884 => ?_) (fun c_1884 => absurd (rfl) c_1884)
    exact w_lv [5, 4, 3, 2, 1, 0] (K I2 J R D ex sw A2 0 0 (by decide) (by decide) m3)
set_option maxRecDepth 100000 in
theorem b_undo {t : Nat} (hE : E.2.2.2.2.1 ≤ 3072) (h6 : 6 * t + 5 < E.2.2.2.2.1) (hI : lwI I J R sw A n c) (hn : n < 90000) (hc : c ≤ 1000) (hu : uc + 1 ≤ 601024) (hs : us + 6 ≤ 7293034) (K : ∀ I1 J1 R1 D1 ex1 sw1 A1 mc ms, mc ≤ 1 → ms ≤ 6 → lwI I1 J1 R1 sw1 A1 (n + 2) (c + 1) → g_Wp E l mLaw rmL Φ (uc + mc) (us + ms) 2159 [(5, .int (nI (6 * t))), (4, .ref 101), (3, .ref 100), (2, .ref 79), (1, .ref 0), (0, .ref 1000)] [] (I1, J1, R1, D1, 102, ex1)) : g_Wp E l mLaw rmL Φ uc us 2013 [(5, .int (nI (6 * t))), (4, .ref 101), (3, .ref 100), (2, .ref 79), (1, .ref 0), (0, .ref 1000)] [] (I, J, R, D, 102, ex) := by
  obtain ⟨V, Q, hC, hCM⟩ := d_undo E l (D := D) (ex := ex) hI hn hc
  refine w_aload_n dL_law_2013 rfl ?_
  refine v_callV dL_law_2014 lk_L_230 [] rfl hC (g_recv.obj (ci := 6) rfl (by decide) (show 0 < 102 by decide)) rfl ⟨⟨lb rfl, lb rfl⟩, (show uc + 0 ≤ 601024 by omega), (show us + 0 ≤ 7293034 by omega)⟩ (lb rfl) (fun x_2014 I1 h_2014 => ?_)
  obtain ⟨e1, q1⟩ := h_2014
  rw [e1]
  have hm := hCM I1 q1
  refine w_aload_n dL_law_2017 rfl ?_
  refine v_callV dL_law_2018 lk_L_233 [] rfl hm (g_recv.obj (ci := 7) rfl (by decide) (show 79 < 102 by decide)) rfl ⟨⟨lb rfl, lb rfl⟩, (show uc + 0 + 0 ≤ 601024 by omega), (show us + 0 + 0 ≤ 7293034 by omega)⟩ (lb rfl) (fun x_2018 I2 h_2018 => ?_)
  obtain ⟨e2, A2, m3⟩ := h_2018
  rw [e2]
  refine w_icmp_eq (tgt := 2159) dL_law_2021 (by decide) (fun c_2021 => ?_) (fun c_2021 => absurd (rfl) c_2021)
  exact w_lv [5, 4, 3, 2, 1, 0] (K I2 J R D ex sw A2 0 0 (by decide) (by decide) m3)
set_option maxRecDepth 100000 in
theorem b_checksum {t : Nat} (hE : E.2.2.2.2.1 ≤ 3072) (h6 : 6 * t + 5 < E.2.2.2.2.1) (hI : lwI I J R sw A n c) (hn : n < 90000) (hc : c ≤ 1000) (hu : uc + 1 ≤ 601024) (hs : us + 6 ≤ 7293034) (K : ∀ I1 J1 R1 D1 ex1 sw1 A1 mc ms, mc ≤ 1 → ms ≤ 6 → lwI I1 J1 R1 sw1 A1 (n + 2) (c + 1) → g_Wp E l mLaw rmL Φ (uc + mc) (us + ms) 2159 [(5, .int (nI (6 * t))), (4, .ref 101), (3, .ref 100), (2, .ref 79), (1, .ref 0), (0, .ref 1000)] [] (I1, J1, R1, D1, 102, ex1)) : g_Wp E l mLaw rmL Φ uc us 2145 [(5, .int (nI (6 * t))), (4, .ref 101), (3, .ref 100), (2, .ref 79), (1, .ref 0), (0, .ref 1000)] [] (I, J, R, D, 102, ex) := by
  obtain ⟨i1, i2, i3, i4⟩ := id hI
  refine w_aload_n dL_law_2145 rfl ?_
  refine y_callV dL_law_2146 lk_L_240 [] rfl (c_checksum E l i1 i3) (g_recv.obj (ci := 6) rfl (by decide) (show 0 < 102 by decide)) rfl ⟨⟨lb rfl, lb rfl⟩, (show uc + 0 ≤ 601024 by omega), (show us + 0 ≤ 7293034 by omega)⟩ (lb rfl) ?_
  refine w_aload_n dL_law_2149 rfl ?_
  refine y_callV dL_law_2150 lk_L_244 [] rfl (m_checksum E l i2 i3.ok i4) (g_recv.obj (ci := 7) rfl (by decide) (show 79 < 102 by decide)) rfl ⟨⟨lb rfl, lb rfl⟩, (show uc + 0 + 0 ≤ 601024 by omega), (show us + 0 + 0 ≤ 7293034 by omega)⟩ (lb rfl) ?_
  refine w_lcmp dL_law_2153 ?_
  refine w_if_eq (tgt := 2159) dL_law_2154 (by decide) (fun c_2154 => ?_) (fun c_2154 => absurd ((lg_self _)) c_2154)
  exact w_lv [5, 4, 3, 2, 1, 0] (K _ J R D ex sw A 0 0 (by decide) (by decide) ⟨i1, i2, (i3.mono (by omega)).fl (qP.at0 i4 0).1 (fun _ _ => rfl), (qP.at0 i4 0).2.2⟩)
end BD
