/-! the law -/
abbrev mLaw : GM := (⟨"HeapGamesLaw", "law", "([I)Z"⟩, cL_law, 6, some .boolean, [])
abbrev rmL : Room := { frames := 14, cells := 600086, slots := 7301442, locals := 550 }
def Iz : Nat → Nat → Int32 := fun _ _ => 0
def Rz : Nat → Nat → Option Nat := fun _ _ => none
def Dz : Nat → Nat → UInt64 := fun _ _ => 0
theorem zf0 (n : Nat) : g_zf Iz J0 Rz Dz n := fun _ _ _ => ⟨rfl, rfl, rfl, rfl⟩
def bdd (R : Nat → Nat → Option Nat) : Prop := ∀ o k c, R o k = some c → c < 79
theorem bdd.u {R : Nat → Nat → Option Nat} (h : bdd R) {a b v : Nat} (hv : v < 79) : bdd (up2 R a b (some v)) := by
  intro o k c hc
  by_cases e : o = a ∧ k = b
  · obtain ⟨rfl, rfl⟩ := e
    rw [up2_s] at hc
    cases hc
    exact hv
  · rw [up2_n _ _ e] at hc
    exact h o k c hc
theorem bdd.gk {R : Nat → Nat → Option Nat} (h : bdd R) {g : Nat} : ∀ k, k ≤ 6 → g + 22 ≤ 47 → bdd (rGk R g k)
  | 0, _, hg => ((h.u (by omega)).u (by omega)).u (by omega)
  | k + 1, hk, hg => (((h.gk k (by omega) hg).u (by omega)).u (by omega)).u (by omega)
theorem bdd.st {R : Nat → Nat → Option Nat} (h : bdd R) {a b : Nat} : ∀ k, b + 2 * k ≤ 79 → bdd (rSt R a b k)
  | 0, _ => h
  | k + 1, hk => ((h.st k (by omega)).u (by omega)).u (by omega)
theorem bd_R0 : g_bd 79 R0 := by
  have h0 : bdd (fun _ _ => none) := fun o k c hc => by cases hc
  have h1 : bdd (r6a (fun _ _ => none)) := (h0.gk (g := 1) 6 (by decide) (by decide)).u (by decide)
  have h2 : bdd (r6b (fun _ _ => none)) := (((h1.u (by decide)).gk (g := 25) 6 (by decide) (by decide)).u (by decide)).u (by decide)
  have h3 : bdd (r6c (fun _ _ => none)) := (((h2.u (by decide)).u (by decide)).u (by decide)).u (by decide)
  have h4 : bdd (r6d (fun _ _ => none)) := ((h3.u (by decide)).st (a := 52) (b := 53) 10 (by decide)).u (by decide)
  have h5 : bdd R0 := ((h4.u (by decide)).u (by decide)).st (a := 73) (b := 75) 2 (by decide)
  exact fun o k c _ hc => h5 o k c hc
theorem psM_0 : psM A0 = 0 := by decide +kernel
theorem wi_0 : wiS A0 = 1 := by
  unfold wiS
  rw [if_neg (show ¬ (mvs A0.cf A0.st.pos).length > 0 from fun q => absurd psM_0 (Nat.ne_of_gt q))]
  rfl
theorem ck_0 : ck4 A0 A0.st.pl.length = 0 := by decide +kernel
/-- what stands between two calls -/
def lwP (I : Nat → Nat → Int32) (J : Nat → Nat → Int64) (R : Nat → Nat → Option Nat) (sw : Bool) (A : AS) (n : Nat) : Prop := lk R 79 sw ∧ g_bd 79 R ∧ rC I J sw A n ∧ 1 ≤ A.nr ∧ A.st.hs.length ≤ 3
section LAW
variable {E : GE} {l : Launch} {Φ : List Frame → Array Value → State → State → Prop}
variable {I : Nat → Nat → Int32} {J : Nat → Nat → Int64} {R : Nat → Nat → Option Nat} {D : Nat → Nat → UInt64} {sw : Bool} {A : AS} {n i uc us : Nat}
set_option maxRecDepth 100000 in
theorem law_op (hL : E.2.2.2.2.1 ≤ 260) (hi : i < 7) (hP : lwP I J R sw A n) (hn : n < 80000) (hu : uc ≤ 600086) (hs : us ≤ 7301442)
    (K : ∀ I' A', lwP I' J R sw A' (n + 5) → g_Wp E l mLaw rmL Φ uc us 266 [(0, .ref 1000), (1, .ref 0), (2, .int (nI i))] [] (I', J, R, D, 79, false)) : g_Wp E l mLaw rmL Φ uc us 126 [(0, .ref 1000), (1, .ref 0), (2, .int (nI i))] [] (I, J, R, D, 79, false) := by
  obtain ⟨hl, hb, h, hnr, hh3⟩ := hP
  have hnr6 : A.nr ≤ 6 := h.1.2
  have e100 : (100 : Int32) + 3 * nI i = nI (100 + 3 * i) := lin2 100 3 i
  have e101 : (101 : Int32) + 3 * nI i = nI (101 + 3 * i) := lin2 101 3 i
  have e102 : (102 : Int32) + 3 * nI i = nI (102 + 3 * i) := lin2 102 3 i
  have p5 := pkV_lt E (100 + 3 * i) (n := 5) (by decide)
  have p10 := pkV_lt E (101 + 3 * i) (n := 10) (by decide)
  have r2 : nI (pkV E (101 + 3 * i) 10) - nI (pkV E (101 + 3 * i) 10) / 2 * 2 = nI (pkV E (101 + 3 * i) 10 % 2) := pk_rem (d := 2) (by omega) (by decide) (by decide)
  have r4 : nI (pkV E (101 + 3 * i) 10) - nI (pkV E (101 + 3 * i) 10) / 4 * 4 = nI (pkV E (101 + 3 * i) 10 % 4) := pk_rem (d := 4) (by omega) (by decide) (by decide)
  have ms : ∀ bb : Bool, g_Wp E l mLaw rmL Φ uc us 169 [(0, .ref 1000), (1, .ref 0), (2, .int (nI i))] [.int (b2i bb), .ref 0] (I, J, R, D, 79, false) := by
    intro bb
    refine v_callV dL_law_169 lk_L_136 [.int (b2i bb)] rfl (c_setMisere E l hl h bb) (g_recv.obj (ci := 6) rfl (by decide) (show 0 < 79 by decide)) rfl ⟨⟨by decide, by decide⟩, hu, hs⟩ (lb rfl) (fun x_169 I1 h_169 => ?_)
    obtain ⟨hx, f1, h1⟩ := h_169
    refine w_istore dL_law_172 (by decide) rfl ?_
    refine w_goto (tgt := 266) dL_law_174 (by decide) ?_
    exact w_lv [0, 1, 2] (K I1 (A.rec (A.st.mis bb)) ⟨hl, hb, h1.mono (by omega), hnr, hh3⟩)
  have tl : ∀ {I9 : Nat → Nat → Int32} {m : Nat}, m ≤ n + 2 → rC I9 J sw A m → g_Wp E l mLaw rmL Φ uc us 235 [(0, .ref 1000), (1, .ref 0), (2, .int (nI i)), (4, .int (nI (pkV E (101 + 3 * i) 10)))] [] (I9, J, R, D, 79, false) := by
    intro I9 m hm h9
    refine w_aload_n dL_law_235 rfl ?_
    refine w_iconst (v := 1) dL_law_236 (by decide) ?_
    refine v_callV dL_law_237 lk_L_77 [.int (nI 1)] rfl (q_size E l hl h9 (by omega) (w := 1) (by decide)) (g_recv.obj (ci := 6) rfl (by decide) (show 0 < 79 by decide)) rfl ⟨⟨by decide, by decide⟩, hu, hs⟩ (lb rfl) (fun x_237 I1 h_237 => ?_)
    obtain ⟨hx, f1, h1⟩ := h_237
    subst hx
    refine w_if_le (tgt := 266) dL_law_240 (by decide) (fun c_240 => ?_) (fun c_240 => ?_)
    · first | exact w_lv [0, 1, 2] (K I3 (A.rec (A.st.put (pkV E (102 + 3 * i) A.st.hs.length) (pkV E (101 + 3 * i) 10))) ⟨hl, hb, h3.mono (by omega), hnr, (by show (A.st.hs.set _ _).length ≤ 3; rw [List.length_set]; exact hh3)⟩) | exact w_lv [0, 1, 2] (K I1 A ⟨hl, hb, h1.mono (by omega), hnr, hh3⟩)
    · refine w_aload_n dL_law_243 rfl ?_
      refine w_aload_n dL_law_244 rfl ?_
      refine w_bipush (v := 102) dL_law_245 (by decide) ?_
      refine w_iconst (v := 3) dL_law_247 (by decide) ?_
      refine w_iload_n dL_law_248 rfl ?_
      refine w_imul dL_law_249 ?_
      refine w_iadd dL_law_250 ?_
      rw [e102]
      refine w_aload_n dL_law_251 rfl ?_
      refine w_iconst (v := 1) dL_law_252 (by decide) ?_
      have hlen : 0 < A.st.hs.length := n_nle (b := 0) c_240
      refine v_callV dL_law_253 lk_L_77 [.int (nI 1)] rfl (q_size E l hl h1 (by omega) (w := 1) (by decide)) (g_recv.obj (ci := 6) rfl (by decide) (show 0 < 79 by decide)) rfl ⟨⟨by decide, by decide⟩, hu, hs⟩ (lb rfl) (fun x_253 I2 h_253 => ?_)
      obtain ⟨hx, f2, h2⟩ := h_253
      subst hx
      refine y_callS dL_law_256 lk_L_28 [.ref 1000, .int (nI (102 + 3 * i)), .int (nI A.st.hs.length)] rfl (c_L_pick E l _ hL (by omega) hlen (by omega)) rfl ⟨⟨by decide, by decide⟩, hu, hs⟩ (lb rfl) ?_
      have pl := pkV_lt E (102 + 3 * i) hlen
      refine w_iload dL_law_259 rfl ?_
      refine v_callV dL_law_261 lk_L_146 [.int (nI (pkV E (102 + 3 * i) A.st.hs.length)), .int (nI (pkV E (101 + 3 * i) 10))] rfl (c_setSize E l hl h2 pl (by omega)) (g_recv.obj (ci := 6) rfl (by decide) (show 0 < 79 by decide)) rfl ⟨⟨by decide, by decide⟩, hu, hs⟩ (lb rfl) (fun x_261 I3 h_261 => ?_)
      obtain ⟨hx, f3, h3⟩ := h_261
      refine w_istore dL_law_264 (by decide) rfl ?_
      first | exact w_lv [0, 1, 2] (K I3 (A.rec (A.st.put (pkV E (102 + 3 * i) A.st.hs.length) (pkV E (101 + 3 * i) 10))) ⟨hl, hb, h3.mono (by omega), hnr, (by show (A.st.hs.set _ _).length ≤ 3; rw [List.length_set]; exact hh3)⟩) | exact w_lv [0, 1, 2] (K I1 A ⟨hl, hb, h1.mono (by omega), hnr, hh3⟩)
  refine w_aload_n dL_law_126 rfl ?_
  refine w_bipush (v := 100) dL_law_127 (by decide) ?_
  refine w_iconst (v := 3) dL_law_129 (by decide) ?_
  refine w_iload_n dL_law_130 rfl ?_
  refine w_imul dL_law_131 ?_
  refine w_iadd dL_law_132 ?_
  rw [e100]
  refine w_iconst (v := 5) dL_law_133 (by decide) ?_
  refine y_callS dL_law_134 lk_L_28 [.ref 1000, .int (nI (100 + 3 * i)), .int (nI 5)] rfl (c_L_pick E l _ hL (by omega) (by decide) (by decide)) rfl ⟨⟨by decide, by decide⟩, hu, hs⟩ (lb rfl) ?_
  refine w_istore_n dL_law_137 (by decide) rfl ?_
  refine w_aload_n dL_law_138 rfl ?_
  refine w_bipush (v := 101) dL_law_139 (by decide) ?_
  refine w_iconst (v := 3) dL_law_141 (by decide) ?_
  refine w_iload_n dL_law_142 rfl ?_
  refine w_imul dL_law_143 ?_
  refine w_iadd dL_law_144 ?_
  rw [e101]
  refine w_bipush (v := 10) dL_law_145 (by decide) ?_
  refine y_callS dL_law_147 lk_L_28 [.ref 1000, .int (nI (101 + 3 * i)), .int (nI 10)] rfl (c_L_pick E l _ hL (by omega) (by decide) (by decide)) rfl ⟨⟨by decide, by decide⟩, hu, hs⟩ (lb rfl) ?_
  refine w_istore dL_law_150 (by decide) rfl ?_
  refine w_iload_n dL_law_152 rfl ?_
  refine w_if_ne (tgt := 177) dL_law_153 (by decide) (fun c_153 => ?_) (fun c_153 => ?_)
  · refine w_iload_n dL_law_177 rfl ?_
    refine w_iconst (v := 1) dL_law_178 (by decide) ?_
    refine w_icmp_ne (tgt := 195) dL_law_179 (by decide) (fun c_179 => ?_) (fun c_179 => ?_)
    · refine w_iload_n dL_law_195 rfl ?_
      refine w_iconst (v := 2) dL_law_196 (by decide) ?_
      refine w_icmp_ne (tgt := 235) dL_law_197 (by decide) (fun c_197 => ?_) (fun c_197 => ?_)
      · first | exact w_lv [0, 1, 2, 4] (tl (by omega) h1) | exact w_lv [0, 1, 2, 4] (tl (by omega) h)
      · refine w_aload_n dL_law_200 rfl ?_
        refine w_iconst (v := 1) dL_law_201 (by decide) ?_
        refine v_callV dL_law_202 lk_L_77 [.int (nI 1)] rfl (q_size E l hl h (by omega) (w := 1) (by decide)) (g_recv.obj (ci := 6) rfl (by decide) (show 0 < 79 by decide)) rfl ⟨⟨by decide, by decide⟩, hu, hs⟩ (lb rfl) (fun x_202 I1 h_202 => ?_)
        obtain ⟨hx, f1, h1⟩ := h_202
        subst hx
        refine w_iconst (v := 3) dL_law_205 (by decide) ?_
        refine w_icmp_ge (tgt := 235) dL_law_206 (by decide) (fun c_206 => ?_) (fun c_206 => ?_)
        · first | exact w_lv [0, 1, 2, 4] (tl (by omega) h1) | exact w_lv [0, 1, 2, 4] (tl (by omega) h)
        · have hlen : A.st.hs.length < 3 := n_nle (a := 3) c_206
          refine w_aload_n dL_law_209 rfl ?_
          refine w_aload_n dL_law_210 rfl ?_
          refine w_bipush (v := 102) dL_law_211 (by decide) ?_
          refine w_iconst (v := 3) dL_law_213 (by decide) ?_
          refine w_iload_n dL_law_214 rfl ?_
          refine w_imul dL_law_215 ?_
          refine w_iadd dL_law_216 ?_
          rw [e102]
          refine w_aload_n dL_law_217 rfl ?_
          refine w_iconst (v := 0) dL_law_218 (by decide) ?_
          refine v_callV dL_law_219 lk_L_77 [.int (nI 0)] rfl (q_size E l hl h1 (by omega) (w := 0) (by decide)) (g_recv.obj (ci := 6) rfl (by decide) (show 0 < 79 by decide)) rfl ⟨⟨by decide, by decide⟩, hu, hs⟩ (lb rfl) (fun x_219 I2 h_219 => ?_)
          obtain ⟨hx, f2, h2⟩ := h_219
          subst hx
          refine y_callS dL_law_222 lk_L_28 [.ref 1000, .int (nI (102 + 3 * i)), .int (nI A.nr)] rfl (c_L_pick E l _ hL (by omega) hnr (by omega)) rfl ⟨⟨by decide, by decide⟩, hu, hs⟩ (lb rfl) ?_
          have pl := pkV_lt E (102 + 3 * i) hnr
          refine w_iload dL_law_225 rfl ?_
          refine v_callV dL_law_227 lk_L_143 [.int (nI (pkV E (102 + 3 * i) A.nr)), .int (nI (pkV E (101 + 3 * i) 10))] rfl (c_addHeap E l hl h2 pl (by omega) (by omega)) (g_recv.obj (ci := 6) rfl (by decide) (show 0 < 79 by decide)) rfl ⟨⟨by decide, by decide⟩, hu, hs⟩ (lb rfl) (fun x_227 I3 h_227 => ?_)
          obtain ⟨hx, f3, h3⟩ := h_227
          refine w_istore dL_law_230 (by decide) rfl ?_
          refine w_goto (tgt := 266) dL_law_232 (by decide) ?_
          first | exact w_lv [0, 1, 2] (K I3 (A.rec (A.st.app (pkV E (102 + 3 * i) A.nr) (pkV E (101 + 3 * i) 10))) ⟨hl, hb, h3.mono (by omega), hnr, (by show (A.st.hs ++ _).length ≤ 3; rw [List.length_append, List.length_singleton]; omega)⟩) | exact w_lv [0, 1, 2] (K I1 (A.rec (A.st.pas (pkV E (101 + 3 * i) 10 % 4))) ⟨hl, hb, h1.mono (by omega), hnr, hh3⟩)
    · refine w_aload_n dL_law_182 rfl ?_
      refine w_iload dL_law_183 rfl ?_
      refine w_iconst (v := 4) dL_law_185 (by decide) ?_
      refine w_irem dL_law_186 (by decide) ?_
      rw [r4]
      refine v_callV dL_law_187 lk_L_140 [.int (nI (pkV E (101 + 3 * i) 10 % 4))] rfl (c_setPasses E l hl h (by omega)) (g_recv.obj (ci := 6) rfl (by decide) (show 0 < 79 by decide)) rfl ⟨⟨by decide, by decide⟩, hu, hs⟩ (lb rfl) (fun x_187 I1 h_187 => ?_)
      obtain ⟨hx, f1, h1⟩ := h_187
      refine w_istore dL_law_190 (by decide) rfl ?_
      refine w_goto (tgt := 266) dL_law_192 (by decide) ?_
      first | exact w_lv [0, 1, 2] (K I3 (A.rec (A.st.app (pkV E (102 + 3 * i) A.nr) (pkV E (101 + 3 * i) 10))) ⟨hl, hb, h3.mono (by omega), hnr, (by show (A.st.hs ++ _).length ≤ 3; rw [List.length_append, List.length_singleton]; omega)⟩) | exact w_lv [0, 1, 2] (K I1 (A.rec (A.st.pas (pkV E (101 + 3 * i) 10 % 4))) ⟨hl, hb, h1.mono (by omega), hnr, hh3⟩)
  · refine w_aload_n dL_law_156 rfl ?_
    refine w_iload dL_law_157 rfl ?_
    refine w_iconst (v := 2) dL_law_159 (by decide) ?_
    refine w_irem dL_law_160 (by decide) ?_
    rw [r2]
    refine w_if_ne (tgt := 168) dL_law_161 (by decide) (fun c_161 => ?_) (fun c_161 => ?_)
    · refine w_iconst (v := 0) dL_law_168 (by decide) ?_
      first | exact w_lv [0, 1, 2] (ms true) | exact w_lv [0, 1, 2] (ms false)
    · refine w_iconst (v := 1) dL_law_164 (by decide) ?_
      refine w_goto (tgt := 169) dL_law_165 (by decide) ?_
      first | exact w_lv [0, 1, 2] (ms true) | exact w_lv [0, 1, 2] (ms false)
set_option maxRecDepth 100000 in
theorem law_bd (hP : lwP I J R sw A n) (hn : n < 80000) (hu : uc + 1 ≤ 600086) (hs : us + 128 ≤ 7301442)
    (K : ∀ I' J' R' D', lwP I' J' R' sw A (n + 2020) → g_Wp E l mLaw rmL Φ (uc + 1) (us + 128) 126 [(0, .ref 1000), (1, .ref 0), (2, .int (nI i))] [] (I', J', R', D', 79, false)) : g_Wp E l mLaw rmL Φ uc us 66 [(0, .ref 1000), (1, .ref 0), (2, .int (nI i))] [] (I, J, R, D, 79, false) := by
  obtain ⟨hl, hb, h, hnr, hh3⟩ := hP
  refine w_aload_n dL_law_66 rfl ?_
  refine w_callS dL_law_67 lk_L_130 (c_L_isPosition E l hl hb h (by omega)) rfl rfl ⟨⟨by decide, by decide⟩, hu, hs⟩ (lb rfl) (fun v w9 hq => ?_) (fun X w9 hq => by obtain ⟨_, _, _, _, hq1, _⟩ := hq; cases hq1)
  obtain ⟨I2, J2, R2, D2, hq1, hq2, hl2, hb2, h2⟩ := hq
  cases hq1
  subst hq2
  refine w_if_eq (tgt := 80) dL_law_70 (by decide) (fun c_70 => absurd c_70 ((by decide))) (fun c_70 => ?_)
  refine w_aload_n dL_law_73 rfl ?_
  refine v_callS dL_law_74 lk_L_133 [.ref 0] rfl (c_L_isSum E l hl2 h2 (by omega) hh3) rfl ⟨⟨by decide, by decide⟩, hu, hs⟩ (lb rfl) (fun x_74 I3 h_74 => ?_)
  obtain ⟨hx, f3, h3⟩ := h_74
  subst hx
  refine w_if_ne (tgt := 82) dL_law_77 (by decide) (fun c_77 => ?_) (fun c_77 => absurd c_77 ((by decide)))
  refine w_aload_n dL_law_82 rfl ?_
  refine v_callV dL_law_83 lk_L_80 [] rfl (q_moves E l hl2 h3 (by omega)) (g_recv.obj (ci := 6) rfl (by decide) (show 0 < 79 by decide)) rfl ⟨⟨by decide, by decide⟩, hu, hs⟩ (lb rfl) (fun x_83 I4 h_83 => ?_)
  obtain ⟨hx, f4, h4⟩ := h_83
  subst hx
  have hM81 := h4.m4.2.2
  refine w_if_ne (tgt := 126) dL_law_86 (by decide) (fun c_86 => ?_) (fun c_86 => ?_)
  · first | exact w_lv [0, 1, 2] (K I7 J2 R2 D2 ⟨hl2, hb2, h7.mono (by omega), hnr, hh3⟩) | exact w_lv [0, 1, 2] (K I4 J2 R2 D2 ⟨hl2, hb2, h4.mono (by omega), hnr, hh3⟩)
  · have hM : psM A = 0 := n_eq (b := 0) c_86
    have hW : ∀ {x : Int32}, (if A.st.mi then plS A else nI (1 - A.st.pl.length % 2)) = x → wiS A = x := fun hx => by rw [← hx]; unfold wiS; rw [if_neg (show ¬ (mvs A.cf A.st.pos).length > 0 from fun q => absurd hM (Nat.ne_of_gt q))]
    refine w_aload_n dL_law_89 rfl ?_
    refine w_bipush (v := 8) dL_law_90 (by decide) ?_
    refine v_callV dL_law_92 lk_L_77 [.int (nI 8)] rfl (q_size E l hl2 h4 (by omega) (w := 8) (by decide)) (g_recv.obj (ci := 6) rfl (by decide) (show 0 < 79 by decide)) rfl ⟨⟨by decide, by decide⟩, hu, hs⟩ (lb rfl) (fun x_92 I5 h_92 => ?_)
    obtain ⟨hx, f5, h5⟩ := h_92
    subst hx
    refine w_aload_n dL_law_95 rfl ?_
    refine w_iconst (v := 4) dL_law_96 (by decide) ?_
    refine v_callV dL_law_97 lk_L_77 [.int (nI 4)] rfl (q_size E l hl2 h5 (by omega) (w := 4) (by decide)) (g_recv.obj (ci := 6) rfl (by decide) (show 0 < 79 by decide)) rfl ⟨⟨by decide, by decide⟩, hu, hs⟩ (lb rfl) (fun x_97 I6 h_97 => ?_)
    obtain ⟨hx, f6, h6⟩ := h_97
    subst hx
    refine w_iconst (v := 1) dL_law_100 (by decide) ?_
    refine w_icmp_ne (tgt := 113) dL_law_101 (by decide) (fun c_101 => ?_) (fun c_101 => ?_)
    · refine w_iconst (v := 1) dL_law_113 (by decide) ?_
      refine w_aload_n dL_law_114 rfl ?_
      refine w_bipush (v := 7) dL_law_115 (by decide) ?_
      refine v_callV dL_law_117 lk_L_77 [.int (nI 7)] rfl (q_size E l hl2 h6 (by omega) (w := 7) (by decide)) (g_recv.obj (ci := 6) rfl (by decide) (show 0 < 79 by decide)) rfl ⟨⟨by decide, by decide⟩, hu, hs⟩ (lb rfl) (fun x_117 I7 h_117 => ?_)
      obtain ⟨hx, f7, h7⟩ := h_117
      subst hx
      refine w_isub dL_law_120 ?_
      refine w_icmp_eq (tgt := 126) dL_law_121 (by decide) (fun c_121 => ?_) (fun c_121 => absurd ((hW (by first | exact if_pos (b2i_1.mp c_101) | exact (if_neg (fun q => c_101 (b2i_1.mpr q))).trans (pk_sub (a := 1) (by omega)).symm))) c_121)
      first | exact w_lv [0, 1, 2] (K I7 J2 R2 D2 ⟨hl2, hb2, h7.mono (by omega), hnr, hh3⟩) | exact w_lv [0, 1, 2] (K I4 J2 R2 D2 ⟨hl2, hb2, h4.mono (by omega), hnr, hh3⟩)
    · refine w_aload_n dL_law_104 rfl ?_
      refine w_bipush (v := 7) dL_law_105 (by decide) ?_
      refine v_callV dL_law_107 lk_L_77 [.int (nI 7)] rfl (q_size E l hl2 h6 (by omega) (w := 7) (by decide)) (g_recv.obj (ci := 6) rfl (by decide) (show 0 < 79 by decide)) rfl ⟨⟨by decide, by decide⟩, hu, hs⟩ (lb rfl) (fun x_107 I7 h_107 => ?_)
      obtain ⟨hx, f7, h7⟩ := h_107
      subst hx
      refine w_goto (tgt := 121) dL_law_110 (by decide) ?_
      refine w_icmp_eq (tgt := 126) dL_law_121 (by decide) (fun c_121 => ?_) (fun c_121 => absurd ((hW (by first | exact if_pos (b2i_1.mp c_101) | exact (if_neg (fun q => c_101 (b2i_1.mpr q))).trans (pk_sub (a := 1) (by omega)).symm))) c_121)
      first | exact w_lv [0, 1, 2] (K I7 J2 R2 D2 ⟨hl2, hb2, h7.mono (by omega), hnr, hh3⟩) | exact w_lv [0, 1, 2] (K I4 J2 R2 D2 ⟨hl2, hb2, h4.mono (by omega), hnr, hh3⟩)
set_option maxRecDepth 100000 in
theorem law_loop (hL : E.2.2.2.2.1 ≤ 260) (hret : ∀ uc us ls w, uc ≤ 600086 → us ≤ 7301442 → g_Wp E l mLaw rmL Φ uc us 273 ls [.int 1] w) : ∀ f i, i + f = 7 → ∀ I J R D sw A, lwP I J R sw A (10 + 2100 * i) → g_Wp E l mLaw rmL Φ (300 + i) (300000 + 128 * i) 60 [(0, .ref 1000), (1, .ref 0), (2, .int (nI i))] [] (I, J, R, D, 79, false) := by
  intro f
  induction f with
  | zero =>
    intro i hi I J R D sw A hP
    have e7 : i = 7 := by omega
    subst e7
    refine w_iload_n dL_law_60 rfl ?_
    refine w_bipush (v := 7) dL_law_61 (by decide) ?_
    refine w_icmp_ge (tgt := 272) dL_law_63 (by decide) (fun c_63 => ?_) (fun c_63 => absurd ((by decide)) c_63)
    refine w_iconst (v := 1) dL_law_272 (by decide) ?_
    exact hret _ _ _ _ (by omega) (by omega)
  | succ f ih =>
    intro i hi I J R D sw A hP
    refine w_iload_n dL_law_60 rfl ?_
    refine w_bipush (v := 7) dL_law_61 (by decide) ?_
    refine w_icmp_ge (tgt := 272) dL_law_63 (by decide) (fun c_63 => absurd c_63 ((fun q => absurd (n_le (a := 7) q) (by omega)))) (fun c_63 => ?_)
    refine law_bd (n := 10 + 2100 * i) hP (by omega) (by omega) (by omega) (fun I2 J2 R2 D2 h2 => ?_)
    refine law_op hL (by omega) h2 (by omega) (by omega) (by omega) (fun I3 A3 h3 => ?_)
    refine w_iinc (v := nI (i + 1)) dL_law_266 rfl (nI_inc _) (by decide) rfl ?_
    refine w_goto (tgt := 60) dL_law_269 (by decide) ?_
    obtain ⟨g1, g2, g3, g4, g5⟩ := h3
    exact w_lv [0, 1, 2] (w_wid (by omega) (by omega) (ih (i + 1) (by omega) I3 J2 R2 D2 sw A3 ⟨g1, g2, g3.mono (by omega), g4, g5⟩))
set_option maxRecDepth 100000 in
theorem law_all (hL : E.2.2.2.2.1 ≤ 260) (hret : ∀ uc us ls w, uc ≤ 600086 → us ≤ 7301442 → g_Wp E l mLaw rmL Φ uc us 273 ls [.int 1] w) : g_Wp E l mLaw rmL Φ 0 0 0 [(0, .ref 1000)] [] (Iz, J0, Rz, Dz, 0, true) := by
  refine x_new (ci := 6) dL_law_0 (by decide) rfl (by decide) cl_L_69 inst_6 init_6 (zf0 0) (by decide) (by decide) ?_
  refine w_dup dL_law_3 rfl ?_
  refine z_callI dL_law_4 lk_L_117 [] rfl (c_X6_init E l (zf0 1)) rfl ⟨⟨by decide, by decide⟩, (by decide), (by decide)⟩ (lb rfl) ?_
  show g_Wp _ _ _ _ _ _ _ _ _ _ (I0, J0, R0, Dz, 79, true)
  refine w_astore_n dL_law_7 (by decide) rfl ?_
  refine w_aload_n dL_law_8 rfl ?_
  refine y_callV dL_law_9 lk_L_118 [] rfl (c_checksum E l lk_0 rC_0) (g_recv.obj (ci := 6) rfl (by decide) (show 0 < 79 by decide)) rfl ⟨⟨by decide, by decide⟩, (by decide), (by decide)⟩ (lb rfl) ?_
  rw [ck_0]
  refine w_lconst (v := 0) dL_law_12 (by decide) ?_
  refine w_lcmp dL_law_13 ?_
  refine w_if_ne (tgt := 56) dL_law_14 (by decide) (fun c_14 => absurd ((by decide)) c_14) (fun c_14 => ?_)
  refine w_aload_n dL_law_17 rfl ?_
  refine v_callV dL_law_18 lk_L_80 [] rfl (q_moves E l lk_0 rC_0 (by decide)) (g_recv.obj (ci := 6) rfl (by decide) (show 0 < 79 by decide)) rfl ⟨⟨by decide, by decide⟩, (by decide), (by decide)⟩ (lb rfl) (fun x_18 I1 h_18 => ?_)
  obtain ⟨hx, f1, h1⟩ := h_18
  subst hx
  refine w_if_ne (tgt := 56) dL_law_21 (by decide) (fun c_21 => absurd ((congrArg nI psM_0)) c_21) (fun c_21 => ?_)
  refine w_aload_n dL_law_24 rfl ?_
  refine v_callV dL_law_25 lk_L_98 [] rfl (q_isWon E l lk_0 h1 (by decide)) (g_recv.obj (ci := 6) rfl (by decide) (show 0 < 79 by decide)) rfl ⟨⟨by decide, by decide⟩, (by decide), (by decide)⟩ (lb rfl) (fun x_25 I2 h_25 => ?_)
  obtain ⟨hx, f2, h2⟩ := h_25
  subst hx
  refine w_if_ne (tgt := 56) dL_law_28 (by decide) (fun c_28 => absurd ((by rw [(ps_end h1.m4.1 psM_0).1]; rfl)) c_28) (fun c_28 => ?_)
  refine w_aload_n dL_law_31 rfl ?_
  refine w_bipush (v := 8) dL_law_32 (by decide) ?_
  refine v_callV dL_law_34 lk_L_77 [.int (nI 8)] rfl (q_size E l lk_0 h2 (by decide) (w := 8) (by decide)) (g_recv.obj (ci := 6) rfl (by decide) (show 0 < 79 by decide)) rfl ⟨⟨by decide, by decide⟩, (by decide), (by decide)⟩ (lb rfl) (fun x_34 I3 h_34 => ?_)
  obtain ⟨hx, f3, h3⟩ := h_34
  subst hx
  refine w_iconst (v := 1) dL_law_37 (by decide) ?_
  refine w_icmp_ne (tgt := 56) dL_law_38 (by decide) (fun c_38 => absurd (wi_0) c_38) (fun c_38 => ?_)
  refine w_aload_n dL_law_41 rfl ?_
  refine v_callSX dL_law_42 lk_L_122 [.ref 0] rfl (c_L_refuses E l lk_0 h3 (by decide) rfl) rfl ⟨⟨by decide, by decide⟩, (by decide), (by decide)⟩ (lb rfl) (fun x_42 I4 h_42 => ?_)
  obtain ⟨hx, f4, h4⟩ := h_42
  subst hx
  refine w_if_eq (tgt := 56) dL_law_45 (by decide) (fun c_45 => absurd c_45 ((by decide))) (fun c_45 => ?_)
  refine w_aload_n dL_law_48 rfl ?_
  refine w_aload_n dL_law_49 rfl ?_
  refine w_callS dL_law_50 lk_L_126 (c_L_begins E l hL lk_0 bd_R0 h4 rfl (by decide)) rfl rfl ⟨⟨by decide, by decide⟩, (by decide), (by decide)⟩ (lb rfl) (fun v w9 hq => ?_) (fun X w9 hq => by obtain ⟨_, _, _, _, _, hq1, _⟩ := hq; cases hq1)
  obtain ⟨I5, J5, R5, D5, A5, hq1, hq2, hl5, hb5, h5, g1, g2, g3⟩ := hq
  cases hq1
  subst hq2
  refine w_if_ne (tgt := 58) dL_law_53 (by decide) (fun c_53 => ?_) (fun c_53 => absurd c_53 ((by decide)))
  refine w_iconst (v := 0) dL_law_58 (by decide) ?_
  refine w_istore_n dL_law_59 (by decide) rfl ?_
  exact w_lv [0, 1, 2] (w_wid (by decide) (by decide) (law_loop hL hret 7 0 rfl I5 J5 R5 D5 (!false) A5 ⟨hl5, hb5, h5.mono (by decide), g1, g3⟩))
end LAW
