/-! the StringBuilder: object 80, its rows of bytes 81 to 84 -/
def cap (k : Nat) : Nat := [16, 34, 70, 142].getD k 0
theorem ob_ar : ∀ k, k < 4 → g_ob (81 + k) = (15, cap k) := by decide +kernel
theorem cap_s : ∀ k, k < 3 → cap (k + 1) = 2 * cap k + 2 := by decide
theorem cap_b : ∀ k, k < 4 → 16 ≤ cap k ∧ cap k ≤ 142 := by decide
theorem cap_3 : ∀ k, k < 4 → cap k < 142 → k < 3 := by decide
def g_lvs (E : GE) : Prop := ∀ o, 81 ≤ o → o < 85 → g_lv E o
def sbS (I : Nat → Nat → Int32) (R : Nat → Nat → Option Nat) (t : Nat → Nat) (n k : Nat) : Prop := k < 4 ∧ R 80 0 = some (81 + k) ∧ I 80 1 = 0 ∧ I 80 3 = nI n ∧ n ≤ cap k ∧ (∀ i, i < n → t i < 128 ∧ I (81 + k) i = nI (t i)) ∧ ∀ i, fits .byte (.int (I (81 + k) i)) = true
def sbW (I : Nat → Nat → Int32) (J : Nat → Nat → Int64) (R : Nat → Nat → Option Nat) (D : Nat → Nat → UInt64) (t : Nat → Nat) (n k : Nat) : Prop := sbS I R t n k ∧ g_zf I J R D (82 + k)
def sbF (I I' : Nat → Nat → Int32) (R R' : Nat → Nat → Option Nat) : Prop := (∀ o, o < 80 → I' o = I o) ∧ (∀ o, o ≠ 80 → R' o = R o) ∧ ∀ b, b ≠ 0 → R' 80 b = R 80 b
theorem sbF.trans {I I' I'' : Nat → Nat → Int32} {R R' R'' : Nat → Nat → Option Nat} (h : sbF I I' R R') (h' : sbF I' I'' R' R'') : sbF I I'' R R'' := ⟨fun o a => (h'.1 o a).trans (h.1 o a), fun o a => (h'.2.1 o a).trans (h.2.1 o a), fun b a => (h'.2.2 b a).trans (h.2.2 b a)⟩
theorem sbF.refl (I : Nat → Nat → Int32) (R : Nat → Nat → Option Nat) : sbF I I R R := ⟨fun _ _ => rfl, fun _ _ => rfl, fun _ _ => rfl⟩
def sbZ (r : Option Value) (J : Nat → Nat → Int64) (D : Nat → Nat → UInt64) (I : Nat → Nat → Int32) (R : Nat → Nat → Option Nat) (t : Nat → Nat) (n q : Nat) : GZ := fun o w => ∃ I' R' k', o = .inr r ∧ w = (I', J, R', D, 82 + k', true) ∧ sbW I' J R' D t n k' ∧ q ≤ cap k' ∧ sbF I I' R R'
theorem bd7 (c : Nat) : c < 128 → narrow .byte (.int (nI c)) = .int (nI c) ∧ (nI c).toInt8.toInt32 = nI c := fun h => (by decide +kernel : ∀ c, c < 128 → narrow .byte (.int (nI c)) = .int (nI c) ∧ (nI c).toInt8.toInt32 = nI c) c h
theorem ft7 : ∀ c, c < 128 → fits .byte (.int (nI c)) = true := by decide +kernel
theorem sh0 (x : Int32) : x >>> ((0 : Int32) &&& 31) = x := sb_shr0 x
theorem sl0 (x : Int32) : x <<< ((0 : Int32) &&& 31) = x := sb_shl0 x
section GU2
variable {E : GE} {l : Launch} {μ : GM} {Rm : Room} {Φ : List Frame → Array Value → State → State → Prop} {uc us pc : Nat} {ls : List (Nat × Value)} {st rest : List Value} {Z : GZ} {mc ms : Nat}
variable {idx m f2 q2 mc2 ms2 : Nat} {μ2 : GM} {as : List Value} {w w2 : GW} {r : Option Value} {X : String}
theorem w_ifnn {x : Nat} {off : Int} {tgt : Nat} (hd : decode μ.2.1 pc = .ok (.ifnonnull off, 3)) (ht : (pc : Int) + off = (tgt : Int)) (k : g_Wp E l μ Rm Φ uc us tgt ls st w) : g_Wp E l μ Rm Φ uc us pc ls (.ref x :: st) w :=
  fun p e s m args below meth c H locs lsA C hR hS hl => lv_ifnonnull C.1 C.2.1 hd ht (k p e s m args below meth c H locs lsA C hR hS hl)
theorem y_callU {v : Value} {o : Nat} (hd : decode μ.2.1 pc = .ok (.invokevirtual idx, 3)) (hk : g_lkU μ.1.cls idx m μ2) (As : List Value) (hst : st = As.reverse ++ .ref o :: rest) (hC : g_Ct E l μ2 f2 q2 mc2 ms2 (.ref o :: As) w (g_is (some v) w2)) (hrv : g_recv E l w o RJ4) (hn : As.length = m) (hR8 : (f2 + 1 ≤ Rm.frames ∧ 8 + (μ2.2.2.1 + 11) + q2 ≤ Rm.locals) ∧ uc + mc2 ≤ Rm.cells ∧ us + ms2 ≤ Rm.slots) (hr8 : (rest.map fun v => v.category).sum ≤ 8)
    (kr : g_Wp E l μ Rm Φ (uc + mc2) (us + ms2) (pc + 3) ls (v :: rest) w2) : g_Wp E l μ Rm Φ uc us pc ls st w :=
  w_callU hd hk hC hrv hst hn hR8 hr8 (fun v' w' h => by obtain ⟨h1, h2⟩ := h; cases h1; subst h2; exact kr) (fun X w' h => by cases h.1)
theorem z_callU {o : Nat} (hd : decode μ.2.1 pc = .ok (.invokevirtual idx, 3)) (hk : g_lkU μ.1.cls idx m μ2) (As : List Value) (hst : st = As.reverse ++ .ref o :: rest) (hC : g_Ct E l μ2 f2 q2 mc2 ms2 (.ref o :: As) w (g_is none w2)) (hrv : g_recv E l w o RJ4) (hn : As.length = m) (hR8 : (f2 + 1 ≤ Rm.frames ∧ 8 + (μ2.2.2.1 + 11) + q2 ≤ Rm.locals) ∧ uc + mc2 ≤ Rm.cells ∧ us + ms2 ≤ Rm.slots) (hr8 : (rest.map fun v => v.category).sum ≤ 8)
    (kr : g_Wp E l μ Rm Φ (uc + mc2) (us + ms2) (pc + 3) ls rest w2) : g_Wp E l μ Rm Φ uc us pc ls st w :=
  w_callU hd hk hC hrv hst hn hR8 hr8 (fun v' w' h => by obtain ⟨h1, h2⟩ := h; cases h1; subst h2; exact kr) (fun X w' h => by cases h.1)
theorem y_callP {v : Value} {o : Nat} (hd : decode μ.2.1 pc = .ok (.invokespecial idx, 3)) (hk : g_lkP μ.1.cls idx m μ2) (As : List Value) (hst : st = As.reverse ++ .ref o :: rest) (hC : g_Ct E l μ2 f2 q2 mc2 ms2 (.ref o :: As) w (g_is (some v) w2)) (hrv : g_recv E l w o RJ4) (hn : As.length = m) (hR8 : (f2 + 1 ≤ Rm.frames ∧ 8 + (μ2.2.2.1 + 11) + q2 ≤ Rm.locals) ∧ uc + mc2 ≤ Rm.cells ∧ us + ms2 ≤ Rm.slots) (hr8 : (rest.map fun v => v.category).sum ≤ 8)
    (kr : g_Wp E l μ Rm Φ (uc + mc2) (us + ms2) (pc + 3) ls (v :: rest) w2) : g_Wp E l μ Rm Φ uc us pc ls st w :=
  w_callP hd hk hC hrv hst hn hR8 hr8 (fun v' w' h => by obtain ⟨h1, h2⟩ := h; cases h1; subst h2; exact kr) (fun X w' h => by cases h.1)
/-- a call that leaves the StringBuilder so -/
theorem sb_callU {o : Nat} {r : Option Value} {J : Nat → Nat → Int64} {D : Nat → Nat → UInt64} {I : Nat → Nat → Int32} {R : Nat → Nat → Option Nat} {t : Nat → Nat} {n q : Nat} (hd : decode μ.2.1 pc = .ok (.invokevirtual idx, 3)) (hk : g_lkU μ.1.cls idx m μ2) (As : List Value) (hst : st = As.reverse ++ .ref o :: rest) (hC : g_Ct E l μ2 f2 q2 mc2 ms2 (.ref o :: As) w (sbZ r J D I R t n q)) (hrv : g_recv E l w o RJ4) (hn : As.length = m) (hR8 : (f2 + 1 ≤ Rm.frames ∧ 8 + (μ2.2.2.1 + 11) + q2 ≤ Rm.locals) ∧ uc + mc2 ≤ Rm.cells ∧ us + ms2 ≤ Rm.slots) (hr8 : (rest.map fun v => v.category).sum ≤ 8)
    (kr : ∀ I' R' k', sbW I' J R' D t n k' → q ≤ cap k' → sbF I I' R R' → g_Wp E l μ Rm Φ (uc + mc2) (us + ms2) (pc + 3) ls (r.toList ++ rest) (I', J, R', D, 82 + k', true)) : g_Wp E l μ Rm Φ uc us pc ls st w :=
  w_callU hd hk hC hrv hst hn hR8 hr8 (fun v' w' h => by obtain ⟨I', R', k', h1, h2, h3, h4, h5⟩ := h; cases h1; subst h2; exact kr I' R' k' h3 h4 h5) (fun X w' h => by obtain ⟨I', R', k', h1, _⟩ := h; cases h1)
theorem sb_callP {o : Nat} {r : Option Value} {J : Nat → Nat → Int64} {D : Nat → Nat → UInt64} {I : Nat → Nat → Int32} {R : Nat → Nat → Option Nat} {t : Nat → Nat} {n q : Nat} (hd : decode μ.2.1 pc = .ok (.invokespecial idx, 3)) (hk : g_lkP μ.1.cls idx m μ2) (As : List Value) (hst : st = As.reverse ++ .ref o :: rest) (hC : g_Ct E l μ2 f2 q2 mc2 ms2 (.ref o :: As) w (sbZ r J D I R t n q)) (hrv : g_recv E l w o RJ4) (hn : As.length = m) (hR8 : (f2 + 1 ≤ Rm.frames ∧ 8 + (μ2.2.2.1 + 11) + q2 ≤ Rm.locals) ∧ uc + mc2 ≤ Rm.cells ∧ us + ms2 ≤ Rm.slots) (hr8 : (rest.map fun v => v.category).sum ≤ 8)
    (kr : ∀ I' R' k', sbW I' J R' D t n k' → q ≤ cap k' → sbF I I' R R' → g_Wp E l μ Rm Φ (uc + mc2) (us + ms2) (pc + 3) ls (r.toList ++ rest) (I', J, R', D, 82 + k', true)) : g_Wp E l μ Rm Φ uc us pc ls st w :=
  w_callP hd hk hC hrv hst hn hR8 hr8 (fun v' w' h => by obtain ⟨I', R', k', h1, h2, h3, h4, h5⟩ := h; cases h1; subst h2; exact kr I' R' k' h3 h4 h5) (fun X w' h => by obtain ⟨I', R', k', h1, _⟩ := h; cases h1)
theorem sb_callV {o : Nat} {r : Option Value} {J : Nat → Nat → Int64} {D : Nat → Nat → UInt64} {I : Nat → Nat → Int32} {R : Nat → Nat → Option Nat} {t : Nat → Nat} {n q : Nat} (hd : decode μ.2.1 pc = .ok (.invokevirtual idx, 3)) (hk : g_lkV μ.1.cls idx m μ2) (As : List Value) (hst : st = As.reverse ++ .ref o :: rest) (hC : g_Ct E l μ2 f2 q2 mc2 ms2 (.ref o :: As) w (sbZ r J D I R t n q)) (hrv : g_recv E l w o μ2.1.cls) (hn : As.length = m) (hR8 : (f2 + 1 ≤ Rm.frames ∧ 8 + (μ2.2.2.1 + 11) + q2 ≤ Rm.locals) ∧ uc + mc2 ≤ Rm.cells ∧ us + ms2 ≤ Rm.slots) (hr8 : (rest.map fun v => v.category).sum ≤ 8)
    (kr : ∀ I' R' k', sbW I' J R' D t n k' → q ≤ cap k' → sbF I I' R R' → g_Wp E l μ Rm Φ (uc + mc2) (us + ms2) (pc + 3) ls (r.toList ++ rest) (I', J, R', D, 82 + k', true)) : g_Wp E l μ Rm Φ uc us pc ls st w :=
  w_callV hd hk hC hrv hst hn hR8 hr8 (fun v' w' h => by obtain ⟨I', R', k', h1, h2, h3, h4, h5⟩ := h; cases h1; subst h2; exact kr I' R' k' h3 h4 h5) (fun X w' h => by obtain ⟨I', R', k', h1, _⟩ := h; cases h1)
end GU2
def g_wn : List (List Nat) := g_wb.map (fun l => l.map (fun x => x.toInt.toNat))
def wdT (i j : Nat) : Nat := (g_wn.getD i []).getD j 0
theorem wd_ok : ∀ i, i < 21 → ∀ j, j < wl i → wb i j = nI (wdT i j) ∧ wdT i j < 128 := by decide +kernel
theorem wb_ft : ∀ i, i < 21 → ∀ j, j < wl i → fits .byte (.int (wb i j)) = true := by decide +kernel
theorem ob_ar1 : ∀ k, k < 3 → g_ob (82 + k) = (15, cap (k + 1)) := by decide +kernel
theorem ch_ok : ∀ c, c < 128 → ((nI c &&& 255).toUInt32 % 65536).toInt32 = nI c ∧ narrow .char (.int (nI c)) = .int (nI c) := by decide +kernel
def dgN (v : Nat) : Nat := if v < 10 then 1 else 2
def dgL (v j : Nat) : Nat := if v < 10 then 48 + v else if j = 0 then 48 + v / 10 else 48 + v % 10
/-- the bytes behind n -/
def pbI (I : Nat → Nat → Int32) (a n m : Nat) (f : Nat → Int32) : Nat → Nat → Int32 := fun x b => if x = a ∧ n ≤ b ∧ b < n + m then f (b - n) else I x b
theorem pbI_o {I : Nat → Nat → Int32} {a n m : Nat} {f : Nat → Int32} {o : Nat} (h : o ≠ a) : pbI I a n m f o = I o := by funext b; exact if_neg (fun q => h q.1)
theorem pbI_lo {I : Nat → Nat → Int32} {a n m : Nat} {f : Nat → Int32} {b : Nat} (h : b < n) : pbI I a n m f a b = I a b := if_neg (fun q => by omega)
theorem pbI_in {I : Nat → Nat → Int32} {a n m : Nat} {f : Nat → Int32} {b : Nat} (h1 : n ≤ b) (h2 : b < n + m) : pbI I a n m f a b = f (b - n) := if_pos ⟨rfl, h1, h2⟩
theorem zf_pb {I : Nat → Nat → Int32} {J : Nat → Nat → Int64} {R : Nat → Nat → Option Nat} {D : Nat → Nat → UInt64} {N a n m : Nat} {f : Nat → Int32} (h : g_zf I J R D N) (ha : a < N) : g_zf (pbI I a n m f) J R D N := fun o ho k => by
  obtain ⟨h1, h2, h3, h4⟩ := h o ho k
  exact ⟨by rw [pbI_o (by omega)]; exact h1, h2, h3, h4⟩
section SBC
variable (E : GE) (l : Launch)
variable {I : Nat → Nat → Int32} {J : Nat → Nat → Int64} {R : Nat → Nat → Option Nat} {D : Nat → Nat → UInt64} {N : Nat} {ex : Bool} {t : Nat → Nat} {n k : Nat}
theorem sb_rv {w : GW} (h : 80 < w.2.2.2.2.1) : g_recv E l w 80 RJ4 := g_recv.obj (ci := 7) rfl (by decide) h
set_option maxRecDepth 100000 in
theorem c_B_newLength {a b c : Nat} (h : b ≤ c) (h1 : 0 < a + c) (h2 : a + c < 1000) (w : GW) : g_Ct E l mJ8_newLength_cabcc 1 21 0 0 [.int (nI a), .int (nI b), .int (nI c)] w (g_is (some (.int (nI (a + c)))) w) := by
  refine g_Ct.of (by decide +kernel) (lb rfl) ?_
  have e : (if nI b < nI c then nI c else nI b) = nI c := by
    split
    · rfl
    · rename_i q
      have := n_nlt q
      rw [show b = c by omega]
  refine w_iload_n dJ8_newLength_cabcc_0 rfl ?_
  refine w_iload_n dJ8_newLength_cabcc_1 rfl ?_
  refine w_iload_n dJ8_newLength_cabcc_2 rfl ?_
  refine w_mmax dJ8_newLength_cabcc_3 lk_J8_194.2.2.1 (by decide) (lb rfl) (by decide) (by decide) ?_
  rw [e]
  refine w_iadd dJ8_newLength_cabcc_6 ?_
  rw [nI_add]
  refine w_istore_n dJ8_newLength_cabcc_7 (by decide) rfl ?_
  refine w_iconst (v := 0) dJ8_newLength_cabcc_8 (by decide) ?_
  refine w_iload_n dJ8_newLength_cabcc_9 rfl ?_
  refine w_icmp_ge (tgt := 21) dJ8_newLength_cabcc_10 (by decide) (fun c_10 => absurd c_10 ((fun q => absurd (n_le (a := a + c) (b := 0) q) (by omega)))) (fun c_10 => ?_)
  refine w_iload_n dJ8_newLength_cabcc_13 rfl ?_
  refine w_ldc dJ8_newLength_cabcc_14 kc_J8_200 ?_
  refine w_icmp_gt (tgt := 21) dJ8_newLength_cabcc_16 (by decide) (fun c_16 => absurd c_16 ((fun q => absurd (n_lt (a := 2147483639) (b := a + c) q) (by omega)))) (fun c_16 => ?_)
  refine w_iload_n dJ8_newLength_cabcc_19 rfl ?_
  refine w_iret dJ8_newLength_cabcc_20 rfl rfl ⟨rfl, rfl⟩ (by decide) (by decide)
set_option maxRecDepth 100000 in
theorem c_B_isLatin1 (hN : 80 < N) (h : I 80 1 = 0) : g_Ct E l mJ5_isLatin1_aae02 0 0 0 0 [.ref 80] (I, J, R, D, N, ex) (g_is (some (.int 1)) (I, J, R, D, N, ex)) := by
  refine g_Ct.of (by decide +kernel) (lb rfl) ?_
  refine w_getsC dJ5_isLatin1_aae02_0 fe_java_lang_AbstractStringBuilder_18 ?_
  refine w_if_eq (tgt := 17) dJ5_isLatin1_aae02_3 (by decide) (fun c_3 => absurd c_3 ((show ¬ (1 : Int32) = 0 from by decide))) (fun c_3 => ?_)
  refine w_aload_n dJ5_isLatin1_aae02_6 rfl ?_
  refine x_getb (ci := 7) (k := 1) dJ5_isLatin1_aae02_7 rfl (by decide) (by decide) hN fl_J5_22 rfl ?_
  refine w_if_ne (tgt := 17) dJ5_isLatin1_aae02_10 (by decide) (fun c_10 => absurd (h) c_10) (fun c_10 => ?_)
  refine w_iconst (v := 1) dJ5_isLatin1_aae02_13 (by decide) ?_
  refine w_goto (tgt := 18) dJ5_isLatin1_aae02_14 (by decide) ?_
  refine w_iret dJ5_isLatin1_aae02_18 rfl (by rfl) ⟨rfl, rfl⟩ (by decide) (by decide)
set_option maxRecDepth 100000 in
theorem c_B_newCapacity (hv : g_lvs E) (h : sbS I R t n k) (hk : k < 3) (hN : 81 + k < N) {q : Nat} (h1 : cap k < q) (h2 : q ≤ 2 * cap k + 2) : g_Ct E l mJ5_newCapacity_0f7a4 2 44 0 0 [.ref 80, .int (nI q)] (I, J, R, D, N, ex) (g_is (some (.int (nI (cap (k + 1))))) (I, J, R, D, N, ex)) := by
  refine g_Ct.of (by decide +kernel) (lb rfl) ?_
  obtain ⟨g1, g2, g3, g4, g5, g6, g7⟩ := h
  have hc := cap_b k g1
  have hs := cap_s k hk
  have e2 : nI (cap k) + 2 = nI (cap k + 2) := nI_add (cap k) 2
  refine w_aload_n dJ5_newCapacity_0f7a4_0 rfl ?_
  refine x_getr (ci := 7) (k := 0) (a := 81 + k) dJ5_newCapacity_0f7a4_1 rfl (by decide) (by decide) (by omega) fl_J5_15 (Or.inr ⟨_, rfl⟩) g2 ?_
  refine x_alenL (c := 15) (L := cap k) dJ5_newCapacity_0f7a4_4 (ob_ar k g1) (by decide) (by decide) (by omega) (hv _ (by omega) (by omega)) ?_
  refine w_istore_n dJ5_newCapacity_0f7a4_5 (by decide) rfl ?_
  refine w_iload_n dJ5_newCapacity_0f7a4_6 rfl ?_
  refine w_aload_n dJ5_newCapacity_0f7a4_7 rfl ?_
  refine x_getb (ci := 7) (k := 1) dJ5_newCapacity_0f7a4_8 rfl (by decide) (by decide) (by omega) fl_J5_22 rfl ?_
  refine w_ishl dJ5_newCapacity_0f7a4_11 ?_
  rw [g3, sl0]
  refine w_istore_n dJ5_newCapacity_0f7a4_12 (by decide) rfl ?_
  refine w_iload_n dJ5_newCapacity_0f7a4_13 rfl ?_
  refine w_iload_n dJ5_newCapacity_0f7a4_14 rfl ?_
  refine w_isub dJ5_newCapacity_0f7a4_15 ?_
  rw [pk_sub (by omega)]
  refine w_istore dJ5_newCapacity_0f7a4_16 (by decide) rfl ?_
  refine w_iload_n dJ5_newCapacity_0f7a4_18 rfl ?_
  refine w_iload dJ5_newCapacity_0f7a4_19 rfl ?_
  refine w_iload_n dJ5_newCapacity_0f7a4_21 rfl ?_
  refine w_iconst (v := 2) dJ5_newCapacity_0f7a4_22 (by decide) ?_
  refine w_aload_n dJ5_newCapacity_0f7a4_23 rfl ?_
  refine x_getb (ci := 7) (k := 1) dJ5_newCapacity_0f7a4_24 rfl (by decide) (by decide) (by omega) fl_J5_22 rfl ?_
  refine w_ishl dJ5_newCapacity_0f7a4_27 ?_
  refine w_iadd dJ5_newCapacity_0f7a4_28 ?_
  rw [g3, sl0, e2]
  refine y_callS dJ5_newCapacity_0f7a4_29 lk_J5_114 [.int (nI (cap k)), .int (nI (q - cap k)), .int (nI (cap k + 2))] rfl (c_B_newLength E l (by omega) (by omega) (by omega) _) rfl ⟨⟨by decide, by decide⟩, by decide, by decide⟩ (lb rfl) ?_
  refine w_istore dJ5_newCapacity_0f7a4_32 (by decide) rfl ?_
  refine w_iload dJ5_newCapacity_0f7a4_34 rfl ?_
  refine w_ldc dJ5_newCapacity_0f7a4_36 kc_J5_39 ?_
  refine w_icmp_ne (tgt := 51) dJ5_newCapacity_0f7a4_38 (by decide) (fun c_38 => ?_) (fun c_38 => absurd c_38 ((fun z => absurd (n_eq (a := cap k + (cap k + 2)) (b := 2147483647) z) (by omega))))
  refine w_iload dJ5_newCapacity_0f7a4_51 rfl ?_
  refine w_aload_n dJ5_newCapacity_0f7a4_53 rfl ?_
  refine x_getb (ci := 7) (k := 1) dJ5_newCapacity_0f7a4_54 rfl (by decide) (by decide) (by omega) fl_J5_22 rfl ?_
  refine w_ishr dJ5_newCapacity_0f7a4_57 ?_
  rw [g3, sh0]
  refine w_iret dJ5_newCapacity_0f7a4_58 rfl rfl ⟨rt_i (congrArg nI (by omega)), rfl⟩ (by decide) (by decide)
set_option maxRecDepth 100000 in
theorem c_B_copyOf (hv : g_lvs E) (hft : ∀ i, fits .byte (.int (I (81 + k) i)) = true) (hk : k < 3) (hz : g_zf I J R D (82 + k)) : g_Ct E l mJ7_copyOf_9075b 1 60 1 142 [.ref (81 + k), .int (nI (cap (k + 1)))] (I, J, R, D, 82 + k, true) (g_is (some (.ref (82 + k))) (pbI I (82 + k) 0 (cap k) (I (81 + k)), J, R, D, 82 + k + 1, true)) := by
  refine g_Ct.of (by decide +kernel) (lb rfl) ?_
  have hc := cap_b k (by omega)
  have hc1 := cap_b (k + 1) (by omega)
  have hs := cap_s k hk
  refine w_iload_n dJ7_copyOf_9075b_0 rfl ?_
  refine w_aload_n dJ7_copyOf_9075b_1 rfl ?_
  refine x_alenL (c := 15) (L := cap k) dJ7_copyOf_9075b_2 (ob_ar k (by omega)) (by decide) (by decide) (by omega) (hv _ (by omega) (by omega)) ?_
  refine w_icmp_ne (tgt := 14) dJ7_copyOf_9075b_3 (by decide) (fun c_3 => ?_) (fun c_3 => absurd c_3 ((fun z => absurd (n_eq (a := cap (k + 1)) (b := cap k) z) (by omega))))
  refine w_iload_n dJ7_copyOf_9075b_14 rfl ?_
  refine x_newarrL (c := 15) (L := cap (k + 1)) dJ7_copyOf_9075b_15 (by omega) (ob_ar1 k hk) (by decide) (by decide) rfl arrc_15 rfl hz (by decide) (show 0 + cap (k + 1) ≤ 142 by omega) ?_
  refine w_astore_n dJ7_copyOf_9075b_17 (by decide) rfl ?_
  refine w_aload_n dJ7_copyOf_9075b_18 rfl ?_
  refine w_iconst (v := 0) dJ7_copyOf_9075b_19 (by decide) ?_
  refine w_aload_n dJ7_copyOf_9075b_20 rfl ?_
  refine w_iconst (v := 0) dJ7_copyOf_9075b_21 (by decide) ?_
  refine w_aload_n dJ7_copyOf_9075b_22 rfl ?_
  refine x_alenL (c := 15) (L := cap k) dJ7_copyOf_9075b_23 (ob_ar k (by omega)) (by decide) (by decide) (by omega) (hv _ (by omega) (by omega)) ?_
  refine w_iload_n dJ7_copyOf_9075b_24 rfl ?_
  refine w_mmin dJ7_copyOf_9075b_25 lk_J7_304.2.2.1 (by decide) (lb rfl) (by decide) (show 0 + cap (k + 1) ≤ 142 by omega) ?_
  rw [if_neg (nI_nlt (by omega) (by omega))]
  refine x_copyG (L2 := cap (k + 1)) (dq := 0) (N := cap k) dJ7_copyOf_9075b_28 lx_J7_150 (src_15 (ob_ar k (by omega)) (by show 81 + k < 82 + k + 1; omega) (hv _ (by omega) (by omega))) (ob_ar1 k hk) (by omega) (hv _ (by omega) (by omega)) (fun j _ => hft j) rfl rfl rfl (by omega) (by decide) (lb rfl) ?_
  refine w_aload_n dJ7_copyOf_9075b_31 rfl ?_
  refine w_aret dJ7_copyOf_9075b_32 rfl (Or.inr ⟨_, rfl⟩) ⟨rfl, rfl⟩ (by decide) (show 0 + cap (k + 1) ≤ 142 by omega)
theorem sbW.grow (h : sbW I J R D t n k) (hk : k < 3) : sbW (pbI I (82 + k) 0 (cap k) (I (81 + k))) J (up2 R 80 0 (some (82 + k))) D t n (k + 1) := by
  obtain ⟨⟨g1, g2, g3, g4, g5, g6, g7⟩, hz⟩ := h
  have hs := cap_s k hk
  have e : 81 + (k + 1) = 82 + k := by omega
  refine ⟨⟨by omega, by rw [up2_s, e], by rw [pbI_o (by omega)]; exact g3, by rw [pbI_o (by omega)]; exact g4, by omega, fun i hi => ⟨(g6 i hi).1, ?_⟩, fun i => ?_⟩, (zf_pb (hz.mono (by omega)) (by omega)).r (by omega)⟩
  · rw [e, pbI_in (by omega) (by omega)]
    exact (g6 i hi).2
  · rw [e]
    by_cases z : i < cap k
    · rw [pbI_in (by omega) (by omega)]
      exact g7 _
    · have z2 : pbI I (82 + k) 0 (cap k) (I (81 + k)) (82 + k) i = I (82 + k) i := if_neg (fun q => by omega)
      rw [z2, (hz (82 + k) (by omega) i).1]
      rfl
set_option maxRecDepth 100000 in
theorem c_B_ensure (hv : g_lvs E) (h : sbW I J R D t n k) {q : Nat} (hq : q ≤ n + 16) (hq2 : q ≤ 142) : g_Ct E l mJ5_ensureCapacityInternal_d00df 3 82 1 142 [.ref 80, .int (nI q)] (I, J, R, D, 82 + k, true) (sbZ none J D I R t n q) := by
  refine g_Ct.of (by decide +kernel) (lb rfl) ?_
  have hh := h.1
  have hw := h
  obtain ⟨⟨g1, g2, g3, g4, g5, g6, g7⟩, hz⟩ := h
  have hc := cap_b k g1
  by_cases hqk : q ≤ cap k
  · refine w_aload_n dJ5_ensureCapacityInternal_d00df_0 rfl ?_
    refine x_getr (ci := 7) (k := 0) (a := 81 + k) dJ5_ensureCapacityInternal_d00df_1 rfl (by decide) (by decide) (by omega) fl_J5_15 (Or.inr ⟨_, rfl⟩) g2 ?_
    refine x_alenL (c := 15) (L := cap k) dJ5_ensureCapacityInternal_d00df_4 (ob_ar k g1) (by decide) (by decide) (by omega) (hv _ (by omega) (by omega)) ?_
    refine w_aload_n dJ5_ensureCapacityInternal_d00df_5 rfl ?_
    refine x_getb (ci := 7) (k := 1) dJ5_ensureCapacityInternal_d00df_6 rfl (by decide) (by decide) (by omega) fl_J5_22 rfl ?_
    refine w_ishr dJ5_ensureCapacityInternal_d00df_9 ?_
    rw [g3, sh0]
    refine w_istore_n dJ5_ensureCapacityInternal_d00df_10 (by decide) rfl ?_
    refine w_iload_n dJ5_ensureCapacityInternal_d00df_11 rfl ?_
    refine w_iload_n dJ5_ensureCapacityInternal_d00df_12 rfl ?_
    refine w_isub dJ5_ensureCapacityInternal_d00df_13 ?_
    refine w_if_le (tgt := 38) dJ5_ensureCapacityInternal_d00df_14 (by decide) (fun c_14 => ?_) (fun c_14 => absurd (((sub_le0 (by omega) (by omega)).mpr hqk)) c_14)
    refine w_vret dJ5_ensureCapacityInternal_d00df_38 rfl ⟨I, R, k, rfl, rfl, ⟨hh, hz⟩, hqk, sbF.refl I R⟩ (by decide) (by decide)
  · have hk : k < 3 := cap_3 k g1 (by omega)
    have hs := cap_s k hk
    refine w_aload_n dJ5_ensureCapacityInternal_d00df_0 rfl ?_
    refine x_getr (ci := 7) (k := 0) (a := 81 + k) dJ5_ensureCapacityInternal_d00df_1 rfl (by decide) (by decide) (by omega) fl_J5_15 (Or.inr ⟨_, rfl⟩) g2 ?_
    refine x_alenL (c := 15) (L := cap k) dJ5_ensureCapacityInternal_d00df_4 (ob_ar k g1) (by decide) (by decide) (by omega) (hv _ (by omega) (by omega)) ?_
    refine w_aload_n dJ5_ensureCapacityInternal_d00df_5 rfl ?_
    refine x_getb (ci := 7) (k := 1) dJ5_ensureCapacityInternal_d00df_6 rfl (by decide) (by decide) (by omega) fl_J5_22 rfl ?_
    refine w_ishr dJ5_ensureCapacityInternal_d00df_9 ?_
    rw [g3, sh0]
    refine w_istore_n dJ5_ensureCapacityInternal_d00df_10 (by decide) rfl ?_
    refine w_iload_n dJ5_ensureCapacityInternal_d00df_11 rfl ?_
    refine w_iload_n dJ5_ensureCapacityInternal_d00df_12 rfl ?_
    refine w_isub dJ5_ensureCapacityInternal_d00df_13 ?_
    refine w_if_le (tgt := 38) dJ5_ensureCapacityInternal_d00df_14 (by decide) (fun c_14 => absurd c_14 ((fun z => absurd ((sub_le0 (by omega) (by omega)).mp z) (by omega)))) (fun c_14 => ?_)
    refine w_aload_n dJ5_ensureCapacityInternal_d00df_17 rfl ?_
    refine w_aload_n dJ5_ensureCapacityInternal_d00df_18 rfl ?_
    refine x_getr (ci := 7) (k := 0) (a := 81 + k) dJ5_ensureCapacityInternal_d00df_19 rfl (by decide) (by decide) (by omega) fl_J5_15 (Or.inr ⟨_, rfl⟩) g2 ?_
    refine w_aload_n dJ5_ensureCapacityInternal_d00df_22 rfl ?_
    refine w_iload_n dJ5_ensureCapacityInternal_d00df_23 rfl ?_
    refine y_callU dJ5_ensureCapacityInternal_d00df_24 lk_J5_104 [.int (nI q)] rfl (c_B_newCapacity E l hv hh hk (by omega) (by omega) (by omega)) (g_recv.obj (ci := 7) rfl (by decide) (show 80 < 82 + k by omega)) rfl ⟨⟨by decide, by decide⟩, by decide, by decide⟩ (lb rfl) ?_
    refine w_aload_n dJ5_ensureCapacityInternal_d00df_27 rfl ?_
    refine x_getb (ci := 7) (k := 1) dJ5_ensureCapacityInternal_d00df_28 rfl (by decide) (by decide) (by omega) fl_J5_22 rfl ?_
    refine w_ishl dJ5_ensureCapacityInternal_d00df_31 ?_
    rw [g3, sl0]
    refine y_callS dJ5_ensureCapacityInternal_d00df_32 lk_J5_108 [.ref (81 + k), .int (nI (cap (k + 1)))] rfl (c_B_copyOf E l hv g7 hk hz) rfl ⟨⟨by decide, by decide⟩, by decide, by decide⟩ (lb rfl) ?_
    refine x_putr (ci := 7) (k := 0) dJ5_ensureCapacityInternal_d00df_35 rfl (by decide) (by decide) (by omega) fl_J5_15 (Or.inr ⟨_, rfl⟩) (Or.inl rfl) ?_
    refine w_vret dJ5_ensureCapacityInternal_d00df_38 rfl ⟨_, _, k + 1, rfl, rfl, hw.grow hk, by omega, fun o ho => pbI_o (by omega), fun o ho => by funext b; exact up2_n _ _ (by omega), fun b hb => up2_n _ _ (by omega)⟩ (by decide) (by decide)
set_option maxRecDepth 100000 in
theorem c_B_inflateIf (hN : 80 < N) (h : I 80 1 = 0) {i : Nat} (hi : i < 21) : g_Ct E l mJ5_inflateIfNeededFor_a7421 1 20 0 0 [.ref 80, .ref (1001 + i)] (I, J, R, D, N, ex) (g_is none (I, J, R, D, N, ex)) := by
  refine g_Ct.of (by decide +kernel) (lb rfl) ?_
  refine w_getsC dJ5_inflateIfNeededFor_a7421_0 fe_java_lang_AbstractStringBuilder_18 ?_
  refine w_if_eq (tgt := 21) dJ5_inflateIfNeededFor_a7421_3 (by decide) (fun c_3 => absurd c_3 ((show ¬ (1 : Int32) = 0 from by decide))) (fun c_3 => ?_)
  refine w_aload_n dJ5_inflateIfNeededFor_a7421_6 rfl ?_
  refine x_getb (ci := 7) (k := 1) dJ5_inflateIfNeededFor_a7421_7 rfl (by decide) (by decide) hN fl_J5_22 rfl ?_
  refine w_aload_n dJ5_inflateIfNeededFor_a7421_10 rfl ?_
  refine y_callV dJ5_inflateIfNeededFor_a7421_11 lk_J5_40 [] rfl (c_S_coder E l _ hi) (g_recv.str hi) rfl ⟨⟨by decide, by decide⟩, by decide, by decide⟩ (lb rfl) ?_
  refine w_icmp_eq (tgt := 21) dJ5_inflateIfNeededFor_a7421_14 (by decide) (fun c_14 => ?_) (fun c_14 => absurd (h) c_14)
  refine w_vret dJ5_inflateIfNeededFor_a7421_21 rfl ⟨rfl, rfl⟩ (by decide) (by decide)
set_option maxRecDepth 100000 in
theorem c_S_getBytes (hv : g_lvs E) {i : Nat} (hi : i < 21) (hk : k < 4) (hN : 81 + k < N) (hc : n + wl i ≤ cap k) : g_Ct E l mJ0_getBytes_840e7 1 60 0 0 [.ref (1001 + i), .ref (81 + k), .int (nI n), .int 0] (I, J, R, D, N, ex) (g_is none (pbI I (81 + k) n (wl i) (wb i), J, R, D, N, ex)) := by
  refine g_Ct.of (by decide +kernel) (lb rfl) ?_
  refine w_aload_n dJ0_getBytes_840e7_0 rfl ?_
  refine y_callV dJ0_getBytes_840e7_1 lk_J0_335 [] rfl (c_S_coder E l _ hi) (g_recv.str hi) rfl ⟨⟨by decide, by decide⟩, by decide, by decide⟩ (lb rfl) ?_
  refine w_iload_n dJ0_getBytes_840e7_4 rfl ?_
  refine w_icmp_ne (tgt := 28) dJ0_getBytes_840e7_5 (by decide) (fun c_5 => absurd (rfl) c_5) (fun c_5 => ?_)
  refine w_aload_n dJ0_getBytes_840e7_8 rfl ?_
  refine w_getSv dJ0_getBytes_840e7_9 fe_java_lang_String_9 hi ?_
  refine w_iconst (v := 0) dJ0_getBytes_840e7_12 (by decide) ?_
  refine w_aload_n dJ0_getBytes_840e7_13 rfl ?_
  refine w_iload_n dJ0_getBytes_840e7_14 rfl ?_
  refine w_iload_n dJ0_getBytes_840e7_15 rfl ?_
  refine w_ishl dJ0_getBytes_840e7_16 ?_
  rw [sl0]
  refine w_aload_n dJ0_getBytes_840e7_17 rfl ?_
  refine w_getSv dJ0_getBytes_840e7_18 fe_java_lang_String_9 hi ?_
  refine w_alenS dJ0_getBytes_840e7_21 hi ?_
  refine x_copyG (L2 := cap k) (dq := n) (N := wl i) dJ0_getBytes_840e7_22 lx_J0_212 (src_S hi) (ob_ar k hk) hN (hv _ (by omega) (by omega)) (fun j hj => wb_ft i hi j hj) rfl rfl rfl hc (by decide) (lb rfl) ?_
  refine w_goto (tgt := 43) dJ0_getBytes_840e7_25 (by decide) ?_
  refine w_vret dJ0_getBytes_840e7_43 rfl ⟨rfl, rfl⟩ (by decide) (by decide)
set_option maxRecDepth 100000 in
theorem c_B_putStringAt (hv : g_lvs E) (h : sbS I R t n k) (hN : 81 + k < N) {i : Nat} (hi : i < 21) (hc : n + wl i ≤ cap k) : g_Ct E l mJ5_putStringAt_47b60 2 83 0 0 [.ref 80, .int (nI n), .ref (1001 + i)] (I, J, R, D, N, ex) (g_is none (pbI I (81 + k) n (wl i) (wb i), J, R, D, N, ex)) := by
  refine g_Ct.of (by decide +kernel) (lb rfl) ?_
  obtain ⟨g1, g2, g3, g4, g5, g6, g7⟩ := h
  refine w_aload_n dJ5_putStringAt_47b60_0 rfl ?_
  refine w_aload_n dJ5_putStringAt_47b60_1 rfl ?_
  refine z_callU dJ5_putStringAt_47b60_2 lk_J5_397 [.ref (1001 + i)] rfl (c_B_inflateIf E l (by omega) g3 hi) (g_recv.obj (ci := 7) rfl (by decide) (show 80 < N by omega)) rfl ⟨⟨by decide, by decide⟩, by decide, by decide⟩ (lb rfl) ?_
  refine w_aload_n dJ5_putStringAt_47b60_5 rfl ?_
  refine w_aload_n dJ5_putStringAt_47b60_6 rfl ?_
  refine x_getr (ci := 7) (k := 0) (a := 81 + k) dJ5_putStringAt_47b60_7 rfl (by decide) (by decide) (by omega) fl_J5_15 (Or.inr ⟨_, rfl⟩) g2 ?_
  refine w_iload_n dJ5_putStringAt_47b60_10 rfl ?_
  refine w_aload_n dJ5_putStringAt_47b60_11 rfl ?_
  refine x_getb (ci := 7) (k := 1) dJ5_putStringAt_47b60_12 rfl (by decide) (by decide) (by omega) fl_J5_22 rfl ?_
  rw [g3]
  refine z_callV dJ5_putStringAt_47b60_15 lk_J5_399 [.ref (81 + k), .int (nI n), .int 0] rfl (c_S_getBytes E l hv hi g1 hN hc) (g_recv.str hi) rfl ⟨⟨by decide, by decide⟩, by decide, by decide⟩ (lb rfl) ?_
  refine w_vret dJ5_putStringAt_47b60_18 rfl ⟨rfl, rfl⟩ (by decide) (by decide)
theorem sbW.put {I1 : Nat → Nat → Int32} {R1 : Nat → Nat → Option Nat} {k1 m : Nat} {s : Nat → Nat} {f : Nat → Int32} (h : sbW I1 J R1 D t n k1) (hm : n + m ≤ cap k1) (hs : ∀ j, j < m → s j < 128 ∧ f j = nI (s j)) : sbW (up2 (pbI I1 (81 + k1) n m f) 80 3 (nI (n + m))) J R1 D (sb_cat t n s) (n + m) k1 := by
  obtain ⟨⟨g1, g2, g3, g4, g5, g6, g7⟩, hz⟩ := h
  refine ⟨⟨g1, g2, by rw [up2_n _ _ (by omega), pbI_o (by omega)]; exact g3, up2_s .., hm, fun i hi => ?_, fun i => ?_⟩, (zf_pb hz (by omega)).i (by omega)⟩
  case refine_2 =>
    rw [up2_n _ _ (by omega)]
    by_cases q : n ≤ i ∧ i < n + m
    · rw [pbI_in q.1 q.2, (hs _ (by omega)).2]; exact ft7 _ (hs _ (by omega)).1
    · have z2 : pbI I1 (81 + k1) n m f (81 + k1) i = I1 (81 + k1) i := if_neg (fun z => q z.2)
      rw [z2]; exact g7 i
  rw [up2_n _ _ (by omega)]
  rcases Nat.lt_or_ge i n with q | q
  · rw [pbI_lo q, sb_cat_lo q]
    exact g6 i q
  · have e := hs (i - n) (by omega)
    have e2 := sb_cat_hi (t := t) (s := s) (n := n) (j := i - n)
    rw [show n + (i - n) = i by omega] at e2
    rw [pbI_in q hi, e2]
    exact e
theorem sbF.put {I1 : Nat → Nat → Int32} {R1 : Nat → Nat → Option Nat} {a m : Nat} {f : Nat → Int32} {v : Int32} (h : sbF I I1 R R1) (ha : 80 ≤ a) : sbF I (up2 (pbI I1 a n m f) 80 3 v) R R1 := ⟨fun o ho => by
  rw [← h.1 o ho]
  funext b
  rw [up2_n _ _ (by omega), pbI_o (by omega)], h.2⟩
set_option maxRecDepth 100000 in
theorem c_B_appendS (hv : g_lvs E) (h : sbW I J R D t n k) {i : Nat} (hi : i < 21) (hn : n + wl i ≤ 142) : g_Ct E l mJ5_append_cf1ce 4 105 1 142 [.ref 80, .ref (1001 + i)] (I, J, R, D, 82 + k, true) (sbZ (some (.ref 80)) J D I R (sb_cat t n (wdT i)) (n + wl i) 0) := by
  refine g_Ct.of (by decide +kernel) (lb rfl) ?_
  have hw : wl i ≤ 16 := (by decide : ∀ i, i < 21 → wl i ≤ 16) i hi
  have h4 := h.1.2.2.2.1
  refine w_aload_n dJ5_append_cf1ce_0 rfl ?_
  refine w_ifnn (tgt := 9) dJ5_append_cf1ce_1 (by decide) ?_
  refine w_aload_n dJ5_append_cf1ce_9 rfl ?_
  refine y_callV dJ5_append_cf1ce_10 lk_J5_32 [] rfl (c_S_length E l _ hi) (g_recv.str hi) rfl ⟨⟨by decide, by decide⟩, by decide, by decide⟩ (lb rfl) ?_
  refine w_istore_n dJ5_append_cf1ce_13 (by decide) rfl ?_
  refine w_aload_n dJ5_append_cf1ce_14 rfl ?_
  refine w_aload_n dJ5_append_cf1ce_15 rfl ?_
  refine x_geti (ci := 7) (k := 3) dJ5_append_cf1ce_16 rfl (by decide) (by decide) (by omega) fl_J5_79 rfl ?_
  refine w_iload_n dJ5_append_cf1ce_19 rfl ?_
  refine w_iadd dJ5_append_cf1ce_20 ?_
  rw [h4, nI_add]
  refine sb_callU dJ5_append_cf1ce_21 lk_J5_100 [.int (nI (n + wl i))] rfl (c_B_ensure E l hv h (by omega) hn) (g_recv.obj (ci := 7) rfl (by decide) (show 80 < 82 + k by omega)) rfl ⟨⟨by decide, by decide⟩, by decide, by decide⟩ (lb rfl) (fun I1 R1 k1 h1 q1 f1 => ?_)
  have g4 := h1.1.2.2.2.1
  have hk1 := h1.1.1
  refine w_aload_n dJ5_append_cf1ce_24 rfl ?_
  refine w_aload_n dJ5_append_cf1ce_25 rfl ?_
  refine x_geti (ci := 7) (k := 3) dJ5_append_cf1ce_26 rfl (by decide) (by decide) (by omega) fl_J5_79 rfl ?_
  rw [g4]
  refine w_aload_n dJ5_append_cf1ce_29 rfl ?_
  refine z_callU dJ5_append_cf1ce_30 lk_J5_208 [.int (nI n), .ref (1001 + i)] rfl (c_B_putStringAt E l hv h1.1 (show 81 + k1 < 82 + k1 by omega) hi q1) (g_recv.obj (ci := 7) rfl (by decide) (show 80 < 82 + k1 by omega)) rfl ⟨⟨by decide, by decide⟩, by decide, by decide⟩ (lb rfl) ?_
  refine w_aload_n dJ5_append_cf1ce_33 rfl ?_
  refine w_dup dJ5_append_cf1ce_34 rfl ?_
  refine x_geti (ci := 7) (k := 3) dJ5_append_cf1ce_35 rfl (by decide) (by decide) (by omega) fl_J5_79 rfl ?_
  rw [pbI_o (show 80 ≠ 81 + k1 by omega), g4]
  refine w_iload_n dJ5_append_cf1ce_38 rfl ?_
  refine w_iadd dJ5_append_cf1ce_39 ?_
  rw [nI_add]
  refine x_puti (ci := 7) (k := 3) dJ5_append_cf1ce_40 rfl (by decide) (by decide) (by omega) fl_J5_79 rfl rfl ?_
  refine w_aload_n dJ5_append_cf1ce_43 rfl ?_
  refine w_aret dJ5_append_cf1ce_44 rfl (Or.inl ⟨_, rfl⟩) ⟨_, _, k1, rfl, rfl, h1.put q1 (fun j hj => ⟨(wd_ok i hi j hj).2, (wd_ok i hi j hj).1⟩), Nat.zero_le _, f1.put (by omega)⟩ (by decide) (by decide)
set_option maxRecDepth 100000 in
theorem c_SB_appendS (hv : g_lvs E) (h : sbW I J R D t n k) {i : Nat} (hi : i < 21) (hn : n + wl i ≤ 142) : g_Ct E l mJ4_append_15ec4 5 127 1 142 [.ref 80, .ref (1001 + i)] (I, J, R, D, 82 + k, true) (sbZ (some (.ref 80)) J D I R (sb_cat t n (wdT i)) (n + wl i) 0) := by
  refine g_Ct.of (by decide +kernel) (lb rfl) ?_
  refine w_aload_n dJ4_append_15ec4_0 rfl ?_
  refine w_aload_n dJ4_append_15ec4_1 rfl ?_
  refine sb_callP dJ4_append_15ec4_2 lk_J4_29 [.ref (1001 + i)] rfl (c_B_appendS E l hv h hi hn) (g_recv.obj (ci := 7) rfl (by decide) (show 80 < 82 + k by omega)) rfl ⟨⟨by decide, by decide⟩, by decide, by decide⟩ (lb rfl) (fun I1 R1 k1 h1 q1 f1 => ?_)
  refine w_pop dJ4_append_15ec4_5 rfl ?_
  refine w_aload_n dJ4_append_15ec4_6 rfl ?_
  refine w_aret dJ4_append_15ec4_7 rfl (Or.inl ⟨_, rfl⟩) ⟨_, _, k1, rfl, rfl, h1, Nat.zero_le _, f1⟩ (by decide) (by decide)
set_option maxRecDepth 100000 in
theorem c_L1_canEncode {c : Nat} (hc : c < 128) (w : GW) : g_Ct E l mJ1_canEncode_fc78d 0 0 0 0 [.int (nI c)] w (g_is (some (.int 1)) w) := by
  refine g_Ct.of (by decide +kernel) (lb rfl) ?_
  refine w_iload_n dJ1_canEncode_fc78d_0 rfl ?_
  refine w_sipush (v := 255) dJ1_canEncode_fc78d_1 (by decide) ?_
  refine w_icmp_gt (tgt := 11) dJ1_canEncode_fc78d_4 (by decide) (fun c_4 => absurd c_4 ((fun z => absurd (n_lt (a := 255) (b := c) z) (by omega)))) (fun c_4 => ?_)
  refine w_iconst (v := 1) dJ1_canEncode_fc78d_7 (by decide) ?_
  refine w_goto (tgt := 12) dJ1_canEncode_fc78d_8 (by decide) ?_
  refine w_iret dJ1_canEncode_fc78d_12 rfl (by rfl) ⟨rfl, rfl⟩ (by decide) (by decide)
theorem sbW.chr {I1 : Nat → Nat → Int32} {R1 : Nat → Nat → Option Nat} {k1 c : Nat} (h : sbW I1 J R1 D t n k1) (hm : n + 1 ≤ cap k1) (hc : c < 128) : sbW (up2 (up2 I1 80 3 (nI (n + 1))) (81 + k1) n (nI c)) J R1 D (sb_cat t n (fun _ => c)) (n + 1) k1 := by
  obtain ⟨⟨g1, g2, g3, g4, g5, g6, g7⟩, hz⟩ := h
  refine ⟨⟨g1, g2, by rw [up2_n _ _ (by omega), up2_n _ _ (by omega)]; exact g3, by rw [up2_n _ _ (by omega), up2_s], hm, fun i hi => ?_, fun i => ?_⟩, (hz.i (by omega)).i (by omega)⟩
  case refine_2 =>
    by_cases q : i = n
    · rw [q, up2_s]; exact ft7 c hc
    · rw [up2_n _ _ (by omega), up2_n _ _ (by omega)]; exact g7 i
  rcases Nat.lt_or_ge i n with q | q
  · rw [up2_n _ _ (by omega), up2_n _ _ (by omega), sb_cat_lo q]
    exact g6 i q
  · obtain rfl : i = n := by omega
    have e2 := sb_cat_hi (t := t) (s := fun _ => c) (n := i) (j := 0)
    rw [Nat.add_zero] at e2
    rw [up2_s, e2]
    exact ⟨hc, rfl⟩
set_option maxRecDepth 100000 in
theorem c_B_appendC (hv : g_lvs E) (h : sbW I J R D t n k) {c : Nat} (hc : c < 128) (hn : n + 1 ≤ 142) : g_Ct E l mJ5_append_3fe6f 4 104 1 142 [.ref 80, .int (nI c)] (I, J, R, D, 82 + k, true) (sbZ (some (.ref 80)) J D I R (sb_cat t n (fun _ => c)) (n + 1) 0) := by
  refine g_Ct.of (by decide +kernel) (lb rfl) ?_
  have h4 := h.1.2.2.2.1
  have e1 : nI n + 1 = nI (n + 1) := nI_1 n
  have bc := bd7 c hc
  refine w_aload_n dJ5_append_3fe6f_0 rfl ?_
  refine w_aload_n dJ5_append_3fe6f_1 rfl ?_
  refine x_geti (ci := 7) (k := 3) dJ5_append_3fe6f_2 rfl (by decide) (by decide) (by omega) fl_J5_79 rfl ?_
  refine w_iconst (v := 1) dJ5_append_3fe6f_5 (by decide) ?_
  refine w_iadd dJ5_append_3fe6f_6 ?_
  rw [h4, e1]
  refine sb_callU dJ5_append_3fe6f_7 lk_J5_100 [.int (nI (n + 1))] rfl (c_B_ensure E l hv h (by omega) hn) (g_recv.obj (ci := 7) rfl (by decide) (show 80 < 82 + k by omega)) rfl ⟨⟨by decide, by decide⟩, by decide, by decide⟩ (lb rfl) (fun I1 R1 k1 h1 q1 f1 => ?_)
  have g4 := h1.1.2.2.2.1
  have g3 := h1.1.2.2.1
  have g2 := h1.1.2.1
  have hk1 := h1.1.1
  refine w_aload_n dJ5_append_3fe6f_10 rfl ?_
  refine y_callU dJ5_append_3fe6f_11 lk_J5_83 [] rfl (c_B_isLatin1 E l (show 80 < 82 + k1 by omega) g3) (g_recv.obj (ci := 7) rfl (by decide) (show 80 < 82 + k1 by omega)) rfl ⟨⟨by decide, by decide⟩, by decide, by decide⟩ (lb rfl) ?_
  refine w_if_eq (tgt := 45) dJ5_append_3fe6f_14 (by decide) (fun c_14 => absurd c_14 ((show ¬ (1 : Int32) = 0 from by decide))) (fun c_14 => ?_)
  refine w_iload_n dJ5_append_3fe6f_17 rfl ?_
  refine y_callS dJ5_append_3fe6f_18 lk_J5_191 [.int (nI c)] rfl (c_L1_canEncode E l hc _) rfl ⟨⟨by decide, by decide⟩, by decide, by decide⟩ (lb rfl) ?_
  refine w_if_eq (tgt := 45) dJ5_append_3fe6f_21 (by decide) (fun c_21 => absurd c_21 ((show ¬ (1 : Int32) = 0 from by decide))) (fun c_21 => ?_)
  refine w_aload_n dJ5_append_3fe6f_24 rfl ?_
  refine x_getr (ci := 7) (k := 0) (a := 81 + k1) dJ5_append_3fe6f_25 rfl (by decide) (by decide) (by omega) fl_J5_15 (Or.inr ⟨_, rfl⟩) g2 ?_
  refine w_aload_n dJ5_append_3fe6f_28 rfl ?_
  refine w_dup dJ5_append_3fe6f_29 rfl ?_
  refine x_geti (ci := 7) (k := 3) dJ5_append_3fe6f_30 rfl (by decide) (by decide) (by omega) fl_J5_79 rfl ?_
  rw [g4]
  refine w_dup_x1 dJ5_append_3fe6f_33 rfl rfl ?_
  refine w_iconst (v := 1) dJ5_append_3fe6f_34 (by decide) ?_
  refine w_iadd dJ5_append_3fe6f_35 ?_
  rw [e1]
  refine x_puti (ci := 7) (k := 3) dJ5_append_3fe6f_36 rfl (by decide) (by decide) (by omega) fl_J5_79 rfl rfl ?_
  refine w_iload_n dJ5_append_3fe6f_39 rfl ?_
  refine w_i2b dJ5_append_3fe6f_40 ?_
  rw [bc.2]
  refine x_bast15 (j := n) dJ5_append_3fe6f_41 (by rw [ob_ar k1 hk1]) (by omega) (hv _ (by omega) (by omega)) rfl (by rw [ob_ar k1 hk1]; exact q1) ?_
  rw [bc.2]
  refine w_goto (tgt := 75) dJ5_append_3fe6f_42 (by decide) ?_
  refine w_aload_n dJ5_append_3fe6f_75 rfl ?_
  refine w_aret dJ5_append_3fe6f_76 rfl (Or.inl ⟨_, rfl⟩) ⟨_, _, k1, rfl, rfl, h1.chr q1 hc, Nat.zero_le _, ⟨fun o ho => by rw [← f1.1 o ho]; funext b; rw [up2_n _ _ (by omega), up2_n _ _ (by omega)], f1.2⟩⟩ (by decide) (by decide)
set_option maxRecDepth 100000 in
theorem c_SB_appendC (hv : g_lvs E) (h : sbW I J R D t n k) {c : Nat} (hc : c < 128) (hn : n + 1 ≤ 142) : g_Ct E l mJ4_append_cf468 5 125 1 142 [.ref 80, .int (nI c)] (I, J, R, D, 82 + k, true) (sbZ (some (.ref 80)) J D I R (sb_cat t n (fun _ => c)) (n + 1) 0) := by
  refine g_Ct.of (by decide +kernel) (lb rfl) ?_
  refine w_aload_n dJ4_append_cf468_0 rfl ?_
  refine w_iload_n dJ4_append_cf468_1 rfl ?_
  refine sb_callP dJ4_append_cf468_2 lk_J4_50 [.int (nI c)] rfl (c_B_appendC E l hv h hc hn) (g_recv.obj (ci := 7) rfl (by decide) (show 80 < 82 + k by omega)) rfl ⟨⟨by decide, by decide⟩, by decide, by decide⟩ (lb rfl) (fun I1 R1 k1 h1 q1 f1 => ?_)
  refine w_pop dJ4_append_cf468_5 rfl ?_
  refine w_aload_n dJ4_append_cf468_6 rfl ?_
  refine w_aret dJ4_append_cf468_7 rfl (Or.inl ⟨_, rfl⟩) ⟨_, _, k1, rfl, rfl, h1, Nat.zero_le _, f1⟩ (by decide) (by decide)
set_option maxRecDepth 100000 in
theorem c_SB_length (h : I 80 3 = nI n) (hN : 80 < N) : g_Ct E l mJ4_length_8abf5 1 20 0 0 [.ref 80] (I, J, R, D, N, ex) (g_is (some (.int (nI n))) (I, J, R, D, N, ex)) := by
  have c1 : g_Ct E l mJ5_length_8abf5 0 0 0 0 [.ref 80] (I, J, R, D, N, ex) (g_is (some (.int (nI n))) (I, J, R, D, N, ex)) := by
    refine g_Ct.of (by decide +kernel) (lb rfl) ?_
    refine w_aload_n dJ5_length_8abf5_0 rfl ?_
    refine x_geti (ci := 7) (k := 3) dJ5_length_8abf5_1 rfl (by decide) (by decide) hN fl_J5_79 rfl ?_
    refine w_iret dJ5_length_8abf5_4 rfl rfl ⟨rt_i h, rfl⟩ (by decide) (by decide)
  refine g_Ct.of (by decide +kernel) (lb rfl) ?_
  refine w_aload_n dJ4_length_8abf5_0 rfl ?_
  refine y_callP dJ4_length_8abf5_1 lk_J4_343 [] rfl c1 (g_recv.obj (ci := 7) rfl (by decide) hN) rfl ⟨⟨by decide, by decide⟩, by decide, by decide⟩ (lb rfl) ?_
  refine w_iret dJ4_length_8abf5_4 rfl rfl ⟨rfl, rfl⟩ (by decide) (by decide)
set_option maxRecDepth 100000 in
theorem c_B_charAt (hv : g_lv E (81 + k)) (h : sbS I R t n k) (hN : 81 + k < N) {j : Nat} (hj : j < n) : g_Ct E l mJ5_charAt_5068e 2 43 0 0 [.ref 80, .int (nI j)] (I, J, R, D, N, ex) (g_is (some (.int (nI (t j)))) (I, J, R, D, N, ex)) := by
  refine g_Ct.of (by decide +kernel) (lb rfl) ?_
  obtain ⟨g1, g2, g3, g4, g5, g6, g7⟩ := h
  have hc := cap_b k g1
  obtain ⟨b1, b2⟩ := g6 j hj
  have e := ch_ok (t j) b1
  have em : (if nI (cap k) < nI n then nI (cap k) else nI n) = nI n := by
    split
    · rename_i q
      have := n_lt q
      omega
    · rfl
  refine w_aload_n dJ5_charAt_5068e_0 rfl ?_
  refine x_getb (ci := 7) (k := 1) dJ5_charAt_5068e_1 rfl (by decide) (by decide) (by omega) fl_J5_22 rfl ?_
  rw [g3]
  refine w_istore_n dJ5_charAt_5068e_4 (by decide) rfl ?_
  refine w_aload_n dJ5_charAt_5068e_5 rfl ?_
  refine x_getr (ci := 7) (k := 0) (a := 81 + k) dJ5_charAt_5068e_6 rfl (by decide) (by decide) (by omega) fl_J5_15 (Or.inr ⟨_, rfl⟩) g2 ?_
  refine w_astore_n dJ5_charAt_5068e_9 (by decide) rfl ?_
  refine w_aload_n dJ5_charAt_5068e_10 rfl ?_
  refine x_geti (ci := 7) (k := 3) dJ5_charAt_5068e_11 rfl (by decide) (by decide) (by omega) fl_J5_79 rfl ?_
  rw [g4]
  refine w_aload_n dJ5_charAt_5068e_14 rfl ?_
  refine x_alenL (c := 15) (L := cap k) dJ5_charAt_5068e_15 (ob_ar k g1) (by decide) (by decide) (by omega) hv ?_
  refine w_iload_n dJ5_charAt_5068e_16 rfl ?_
  refine w_ishr dJ5_charAt_5068e_17 ?_
  rw [sh0]
  refine w_mmin dJ5_charAt_5068e_18 lk_J5_138.2.2.1 (by decide) (lb rfl) (by decide) (by decide) ?_
  rw [em]
  refine w_istore dJ5_charAt_5068e_21 (by decide) rfl ?_
  refine w_iload_n dJ5_charAt_5068e_23 rfl ?_
  refine w_iload dJ5_charAt_5068e_24 rfl ?_
  refine z_callS dJ5_charAt_5068e_26 lk_J5_144 [.int (nI j), .int (nI n)] rfl (c_S_checkIndex E l _ hj (by omega)) rfl ⟨⟨by decide, by decide⟩, by decide, by decide⟩ (lb rfl) ?_
  refine w_iload_n dJ5_charAt_5068e_29 rfl ?_
  refine w_if_ne (tgt := 42) dJ5_charAt_5068e_30 (by decide) (fun c_30 => absurd (rfl) c_30) (fun c_30 => ?_)
  refine w_aload_n dJ5_charAt_5068e_33 rfl ?_
  refine w_iload_n dJ5_charAt_5068e_34 rfl ?_
  refine x_bald15 (j := j) dJ5_charAt_5068e_35 (by rw [ob_ar k g1]) (by omega) hv rfl (by rw [ob_ar k g1]; show j < cap k; omega) ?_
  rw [b2]
  refine w_sipush (v := 255) dJ5_charAt_5068e_36 (by decide) ?_
  refine w_iand dJ5_charAt_5068e_39 ?_
  refine w_i2c dJ5_charAt_5068e_40 ?_
  rw [e.1]
  refine w_iret dJ5_charAt_5068e_41 rfl e.2 ⟨rfl, rfl⟩ (by decide) (by decide)
set_option maxRecDepth 100000 in
theorem c_SB_charAt (hv : g_lv E (81 + k)) (h : sbS I R t n k) (hN : 81 + k < N) {j : Nat} (hj : j < n) : g_Ct E l mJ4_charAt_5068e 3 67 0 0 [.ref 80, .int (nI j)] (I, J, R, D, N, ex) (g_is (some (.int (nI (t j)))) (I, J, R, D, N, ex)) := by
  refine g_Ct.of (by decide +kernel) (lb rfl) ?_
  refine w_aload_n dJ4_charAt_5068e_0 rfl ?_
  refine w_iload_n dJ4_charAt_5068e_1 rfl ?_
  refine y_callP dJ4_charAt_5068e_2 lk_J4_329 [.int (nI j)] rfl (c_B_charAt E l hv h hN hj) (g_recv.obj (ci := 7) rfl (by decide) (show 80 < N by omega)) rfl ⟨⟨by decide, by decide⟩, by decide, by decide⟩ (lb rfl) ?_
  refine w_iret dJ4_charAt_5068e_5 rfl (ch_ok (t j) (h.2.2.2.2.2.1 j hj).1).2 ⟨rfl, rfl⟩ (by decide) (by decide)
end SBC
