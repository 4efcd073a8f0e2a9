/-! ROWS: calls that throw, by a relation; HeapGames: moves described, the best one -/
def g_rx (X : String) (P : (Nat → Nat → Int32) → Prop) (J : Nat → Nat → Int64) (R : Nat → Nat → Option Nat) (D : Nat → Nat → UInt64) (N : Nat) : GZ := fun o w => ∃ I, o = .inl X ∧ P I ∧ w = (I, J, R, D, N, false)
section GT5
variable {E : GE} {l : Launch} {μ : GM} {Rm : Room} {Φ : List Frame → Array Value → State → State → Prop} {uc us pc : Nat} {ls : List (Nat × Value)} {st rest : List Value} {Z : GZ} {mc ms : Nat}
variable {J : Nat → Nat → Int64} {R : Nat → Nat → Option Nat} {D : Nat → Nat → UInt64} {n : Nat}
variable {idx m f2 q2 mc2 ms2 : Nat} {μ2 : GM} {as : List Value} {w w2 : GW} {r : Option Value} {X : String}
theorem r_callS {P : (Nat → Nat → Int32) → Prop} (hd : decode μ.2.1 pc = .ok (.invokestatic idx, 3)) (hk : g_lkS μ.1.cls idx m μ2) (as : List Value) (hst : st = as.reverse ++ rest) (hC : g_Ct E l μ2 f2 q2 mc2 ms2 as w (g_rx X P J R D n)) (hn : as.length = m) (hR8 : (f2 + 1 ≤ Rm.frames ∧ 8 + (μ2.2.2.1 + 11) + q2 ≤ Rm.locals) ∧ uc + mc2 ≤ Rm.cells ∧ us + ms2 ≤ Rm.slots) (hr8 : (rest.map fun v => v.category).sum ≤ 8)
    (kx : ∀ I', P I' → g_Wx E l μ Rm Φ (uc + mc2) (us + ms2) pc ls rest (I', J, R, D, n, false) X) : g_Wp E l μ Rm Φ uc us pc ls st w :=
  w_callS hd hk hC hst hn hR8 hr8 (fun v w' h => by obtain ⟨I', h1, h2, h3⟩ := h; cases h1) (fun X w' h => by obtain ⟨I', h1, h2, h3⟩ := h; cases h1; subst h3; exact kx I' h2)
theorem r_callSN {P : (Nat → Nat → Int32) → Prop} (hd : decode μ.2.1 pc = .ok (.invokestatic idx, 3)) (hk : g_lkSN μ.1.cls idx m μ2) (as : List Value) (hst : st = as.reverse ++ rest) (hC : g_Ct E l μ2 f2 q2 mc2 ms2 as w (g_rx X P J R D n)) (hn : as.length = m) (hR8 : (f2 + 1 ≤ Rm.frames ∧ 8 + (μ2.2.2.1 + 11) + q2 ≤ Rm.locals) ∧ uc + mc2 ≤ Rm.cells ∧ us + ms2 ≤ Rm.slots) (hr8 : (rest.map fun v => v.category).sum ≤ 8)
    (kx : ∀ I', P I' → g_Wx E l μ Rm Φ (uc + mc2) (us + ms2) pc ls rest (I', J, R, D, n, false) X) : g_Wp E l μ Rm Φ uc us pc ls st w :=
  w_callSN hd hk hC hst hn hR8 hr8 (fun v w' h => by obtain ⟨I', h1, h2, h3⟩ := h; cases h1) (fun X w' h => by obtain ⟨I', h1, h2, h3⟩ := h; cases h1; subst h3; exact kx I' h2)
theorem r_callSX {P : (Nat → Nat → Int32) → Prop} (hd : decode μ.2.1 pc = .ok (.invokestatic idx, 3)) (hk : g_lkSX μ.1.cls idx m μ2) (as : List Value) (hst : st = as.reverse ++ rest) (hC : g_Ct E l μ2 f2 q2 mc2 ms2 as w (g_rx X P J R D n)) (hn : as.length = m) (hR8 : (f2 + 1 ≤ Rm.frames ∧ 8 + (μ2.2.2.1 + 11) + q2 ≤ Rm.locals) ∧ uc + mc2 ≤ Rm.cells ∧ us + ms2 ≤ Rm.slots) (hr8 : (rest.map fun v => v.category).sum ≤ 8)
    (kx : ∀ I', P I' → g_Wx E l μ Rm Φ (uc + mc2) (us + ms2) pc ls rest (I', J, R, D, n, false) X) : g_Wp E l μ Rm Φ uc us pc ls st w :=
  w_callSX hd hk hC hst hn hR8 hr8 (fun v w' h => by obtain ⟨I', h1, h2, h3⟩ := h; cases h1) (fun X w' h => by obtain ⟨I', h1, h2, h3⟩ := h; cases h1; subst h3; exact kx I' h2)
theorem r_callV {P : (Nat → Nat → Int32) → Prop} {o : Nat} (hd : decode μ.2.1 pc = .ok (.invokevirtual idx, 3)) (hk : g_lkV μ.1.cls idx m μ2) (As : List Value) (hst : st = As.reverse ++ .ref o :: rest) (hC : g_Ct E l μ2 f2 q2 mc2 ms2 (.ref o :: As) w (g_rx X P J R D n)) (hrv : g_recv E l w o μ2.1.cls) (hn : As.length = m) (hR8 : (f2 + 1 ≤ Rm.frames ∧ 8 + (μ2.2.2.1 + 11) + q2 ≤ Rm.locals) ∧ uc + mc2 ≤ Rm.cells ∧ us + ms2 ≤ Rm.slots) (hr8 : (rest.map fun v => v.category).sum ≤ 8)
    (kx : ∀ I', P I' → g_Wx E l μ Rm Φ (uc + mc2) (us + ms2) pc ls rest (I', J, R, D, n, false) X) : g_Wp E l μ Rm Φ uc us pc ls st w :=
  w_callV hd hk hC hrv hst hn hR8 hr8 (fun v w' h => by obtain ⟨I', h1, h2, h3⟩ := h; cases h1) (fun X w' h => by obtain ⟨I', h1, h2, h3⟩ := h; cases h1; subst h3; exact kx I' h2)
theorem r_callI {P : (Nat → Nat → Int32) → Prop} {o : Nat} (hd : decode μ.2.1 pc = .ok (.invokespecial idx, 3)) (hk : g_lkI μ.1.cls idx m μ2) (As : List Value) (hst : st = As.reverse ++ .ref o :: rest) (hC : g_Ct E l μ2 f2 q2 mc2 ms2 (.ref o :: As) w (g_rx X P J R D n)) (hn : As.length = m) (hR8 : (f2 + 1 ≤ Rm.frames ∧ 8 + (μ2.2.2.1 + 11) + q2 ≤ Rm.locals) ∧ uc + mc2 ≤ Rm.cells ∧ us + ms2 ≤ Rm.slots) (hr8 : (rest.map fun v => v.category).sum ≤ 8)
    (kx : ∀ I', P I' → g_Wx E l μ Rm Φ (uc + mc2) (us + ms2) pc ls rest (I', J, R, D, n, false) X) : g_Wp E l μ Rm Φ uc us pc ls st w :=
  w_callI hd hk hC hst hn hR8 hr8 (fun v w' h => by obtain ⟨I', h1, h2, h3⟩ := h; cases h1) (fun X w' h => by obtain ⟨I', h1, h2, h3⟩ := h; cases h1; subst h3; exact kx I' h2)
theorem r_callIN {P : (Nat → Nat → Int32) → Prop} {o : Nat} (hd : decode μ.2.1 pc = .ok (.invokespecial idx, 3)) (hk : g_lkIN μ.1.cls idx m μ2) (As : List Value) (hst : st = As.reverse ++ .ref o :: rest) (hC : g_Ct E l μ2 f2 q2 mc2 ms2 (.ref o :: As) w (g_rx X P J R D n)) (hn : As.length = m) (hR8 : (f2 + 1 ≤ Rm.frames ∧ 8 + (μ2.2.2.1 + 11) + q2 ≤ Rm.locals) ∧ uc + mc2 ≤ Rm.cells ∧ us + ms2 ≤ Rm.slots) (hr8 : (rest.map fun v => v.category).sum ≤ 8)
    (kx : ∀ I', P I' → g_Wx E l μ Rm Φ (uc + mc2) (us + ms2) pc ls rest (I', J, R, D, n, false) X) : g_Wp E l μ Rm Φ uc us pc ls st w :=
  w_callIN hd hk hC hst hn hR8 hr8 (fun v w' h => by obtain ⟨I', h1, h2, h3⟩ := h; cases h1) (fun X w' h => by obtain ⟨I', h1, h2, h3⟩ := h; cases h1; subst h3; exact kx I' h2)
end GT5
theorem dig_mul {a h k : Nat} (ha : a ≤ 15) (hh : h < 4) (hk : k < 4) : dig (a * 2 ^ (4 * h)) k = if k = h then a else 0 := by
  have e : ∀ b, a * 2 ^ (4 * h) = b → dig (a * 2 ^ (4 * h)) k = dig b k := fun b hb => by rw [hb]
  rcases (show h = 0 ∨ h = 1 ∨ h = 2 ∨ h = 3 by omega) with rfl | rfl | rfl | rfl
  · rw [e (mk5 a 0 0 0 0) (by unfold mk5; omega)]
    rcases (show k = 0 ∨ k = 1 ∨ k = 2 ∨ k = 3 by omega) with rfl | rfl | rfl | rfl
    · exact mk5_0 (by omega)
    · exact mk5_1 (by omega) (by omega)
    · exact mk5_2 (by omega) (by omega) (by omega)
    · exact mk5_3 (by omega) (by omega) (by omega) (by omega)
  · rw [e (mk5 0 a 0 0 0) (by unfold mk5; omega)]
    rcases (show k = 0 ∨ k = 1 ∨ k = 2 ∨ k = 3 by omega) with rfl | rfl | rfl | rfl
    · exact mk5_0 (by omega)
    · exact mk5_1 (by omega) (by omega)
    · exact mk5_2 (by omega) (by omega) (by omega)
    · exact mk5_3 (by omega) (by omega) (by omega) (by omega)
  · rw [e (mk5 0 0 a 0 0) (by unfold mk5; omega)]
    rcases (show k = 0 ∨ k = 1 ∨ k = 2 ∨ k = 3 by omega) with rfl | rfl | rfl | rfl
    · exact mk5_0 (by omega)
    · exact mk5_1 (by omega) (by omega)
    · exact mk5_2 (by omega) (by omega) (by omega)
    · exact mk5_3 (by omega) (by omega) (by omega) (by omega)
  · rw [e (mk5 0 0 0 a 0) (by unfold mk5; omega)]
    rcases (show k = 0 ∨ k = 1 ∨ k = 2 ∨ k = 3 by omega) with rfl | rfl | rfl | rfl
    · exact mk5_0 (by omega)
    · exact mk5_1 (by omega) (by omega)
    · exact mk5_2 (by omega) (by omega) (by omega)
    · exact mk5_3 (by omega) (by omega) (by omega) (by omega)
theorem dig_mk {a b c d q k : Nat} (ha : a < 16) (hb : b < 16) (hc : c < 16) (hd : d < 16) (hk : k < 4) : dig (mk5 a b c d q) k = if k = 0 then a else if k = 1 then b else if k = 2 then c else d := by
  rcases (show k = 0 ∨ k = 1 ∨ k = 2 ∨ k = 3 by omega) with rfl | rfl | rfl | rfl
  · exact mk5_0 ha
  · exact mk5_1 ha hb
  · exact mk5_2 ha hb hc
  · exact mk5_3 ha hb hc hd
theorem dig_both {a h o k : Nat} (ha : a ≤ 15) (hh : h < o) (ho : o < 4) (hk : k < 4) : dig (a * (2 ^ (4 * h) + 2 ^ (4 * o))) k = if k = h ∨ k = o then a else 0 := by
  have e : ∀ b, a * (2 ^ (4 * h) + 2 ^ (4 * o)) = b → dig (a * (2 ^ (4 * h) + 2 ^ (4 * o))) k = dig b k := fun b hb => by rw [hb]
  have hx : (h = 0 ∧ o = 1) ∨ (h = 0 ∧ o = 2) ∨ (h = 0 ∧ o = 3) ∨ (h = 1 ∧ o = 2) ∨ (h = 1 ∧ o = 3) ∨ (h = 2 ∧ o = 3) := by omega
  rcases hx with ⟨rfl, rfl⟩ | ⟨rfl, rfl⟩ | ⟨rfl, rfl⟩ | ⟨rfl, rfl⟩ | ⟨rfl, rfl⟩ | ⟨rfl, rfl⟩
  · rw [e (mk5 a a 0 0 0) (by unfold mk5; omega), dig_mk (by omega) (by omega) (by omega) (by omega) hk]
    rcases (show k = 0 ∨ k = 1 ∨ k = 2 ∨ k = 3 by omega) with rfl | rfl | rfl | rfl <;> simp
  · rw [e (mk5 a 0 a 0 0) (by unfold mk5; omega), dig_mk (by omega) (by omega) (by omega) (by omega) hk]
    rcases (show k = 0 ∨ k = 1 ∨ k = 2 ∨ k = 3 by omega) with rfl | rfl | rfl | rfl <;> simp
  · rw [e (mk5 a 0 0 a 0) (by unfold mk5; omega), dig_mk (by omega) (by omega) (by omega) (by omega) hk]
    rcases (show k = 0 ∨ k = 1 ∨ k = 2 ∨ k = 3 by omega) with rfl | rfl | rfl | rfl <;> simp
  · rw [e (mk5 0 a a 0 0) (by unfold mk5; omega), dig_mk (by omega) (by omega) (by omega) (by omega) hk]
    rcases (show k = 0 ∨ k = 1 ∨ k = 2 ∨ k = 3 by omega) with rfl | rfl | rfl | rfl <;> simp
  · rw [e (mk5 0 a 0 a 0) (by unfold mk5; omega), dig_mk (by omega) (by omega) (by omega) (by omega) hk]
    rcases (show k = 0 ∨ k = 1 ∨ k = 2 ∨ k = 3 by omega) with rfl | rfl | rfl | rfl <;> simp
  · rw [e (mk5 0 0 a a 0) (by unfold mk5; omega), dig_mk (by omega) (by omega) (by omega) (by omega) hk]
    rcases (show k = 0 ∨ k = 1 ∨ k = 2 ∨ k = 3 by omega) with rfl | rfl | rfl | rfl <;> simp
theorem mvW.lt {m : Mv} (h : mvW m) : m.code < 262144 := by
  rcases m with ⟨k, a⟩ | ⟨k, o, a⟩ | ⟨⟩
  · obtain ⟨h1, h2, h3⟩ : k < 4 ∧ 1 ≤ a ∧ a ≤ 15 := h
    show a * 2 ^ (4 * k) < _
    rcases (show k = 0 ∨ k = 1 ∨ k = 2 ∨ k = 3 by omega) with rfl | rfl | rfl | rfl <;> omega
  · obtain ⟨h1, h2, h3, h4⟩ : k < o ∧ o < 4 ∧ 1 ≤ a ∧ a ≤ 15 := h
    show a * (2 ^ (4 * k) + 2 ^ (4 * o)) < _
    have hx : (k = 0 ∧ o = 1) ∨ (k = 0 ∧ o = 2) ∨ (k = 0 ∧ o = 3) ∨ (k = 1 ∧ o = 2) ∨ (k = 1 ∧ o = 3) ∨ (k = 2 ∧ o = 3) := by omega
    rcases hx with ⟨rfl, rfl⟩ | ⟨rfl, rfl⟩ | ⟨rfl, rfl⟩ | ⟨rfl, rfl⟩ | ⟨rfl, rfl⟩ | ⟨rfl, rfl⟩ <;> omega
  · show 65536 < 262144
    decide
/-- what is told of a move -/
def deS (m : Mv) (w : Nat) : Int32 := match m with
  | .inl y => (match w with
    | 0 => 0
    | 1 => nI y.1
    | 2 => -1
    | _ => nI y.2)
  | .inr (.inl y) => (match w with
    | 0 => 1
    | 1 => nI y.1
    | 2 => nI y.2.1
    | _ => nI y.2.2)
  | .inr (.inr _) => (match w with
    | 0 => 2
    | 1 => -1
    | 2 => -1
    | _ => 0)
def nzD (x : Nat) (k : Nat) : Bool := decide (dig x k ≠ 0)
theorem perF_fst {q : Nat → Bool} : ∀ {f s t : Nat}, s ≤ t → t < s + f → q t = true → (∀ i, s ≤ i → i < t → q i = false) → perF q f s = some t
  | 0, _, _, h1, h2, _, _ => by omega
  | f + 1, s, t, h1, h2, h3, h4 => by
    rw [perF]
    rcases Nat.lt_or_ge s t with z | z
    · rw [h4 s (Nat.le_refl _) z]
      exact perF_fst (by omega) (by omega) h3 (fun i a b => h4 i (by omega) b)
    · obtain rfl : s = t := by omega
      rw [h3]
      rfl
theorem perF_no {q : Nat → Bool} : ∀ {f s : Nat}, (∀ i, s ≤ i → i < s + f → q i = false) → perF q f s = none
  | 0, _, _ => rfl
  | f + 1, s, h => by
    rw [perF, h s (Nat.le_refl _) (by omega)]
    exact perF_no (fun i a b => h i (by omega) (by omega))
section DE
variable (E : GE) (l : Launch)
set_option maxRecDepth 100000 in
theorem c_heapTakenFrom (w : GW) {x lo : Nat} (hx : x < 2 ^ 31) (hlo : lo ≤ 4) : g_Ct E l mX6_heapTakenFrom 1 21 0 0 [.int (nI x), .int (nI lo)] w (g_is (some (.int (o2i (perF (nzD x) (4 - lo) lo)))) w) := by
  refine g_Ct.of (by decide +kernel) (lb rfl) ?_
  generalize hQ : perF (nzD x) (4 - lo) lo = Q
  have loop : ∀ f k : Nat, k + f = 4 → perF (nzD x) f k = Q → g_Wp E l mX6_heapTakenFrom { frames := 1, cells := 0, slots := 0, locals := 21 } (g_Fin E (g_is (some (.int (o2i Q))) w) 0 0) 0 0 2 [(2, .int (nI k)), (0, .int (nI x))] [] w := by
    intro f
    induction f with
    | zero =>
      intro k hk hq
      obtain rfl : k = 4 := by omega
      refine w_iload_n dX6_heapTakenFrom_2 rfl ?_
      refine w_iconst (v := 4) dX6_heapTakenFrom_3 (by decide) ?_
      refine w_icmp_ge (tgt := 23) dX6_heapTakenFrom_4 (by decide) (fun c_4 => ?_) (fun c_4 => absurd ((by decide)) c_4)
      refine w_iconst (v := (-1)) dX6_heapTakenFrom_23 (by decide) ?_
      refine w_iret dX6_heapTakenFrom_24 rfl rfl ⟨rt_i (by rw [← hq]; rfl), rfl⟩ (by decide) (by decide)
    | succ f ih =>
      intro k hk hq
      rw [perF] at hq
      have hd := dig_lt x k
      refine w_iload_n dX6_heapTakenFrom_2 rfl ?_
      refine w_iconst (v := 4) dX6_heapTakenFrom_3 (by decide) ?_
      refine w_icmp_ge (tgt := 23) dX6_heapTakenFrom_4 (by decide) (fun c_4 => absurd c_4 ((nI_ge (a := k) (b := 4) (by omega) (by omega)))) (fun c_4 => ?_)
      refine w_iload_n dX6_heapTakenFrom_7 rfl ?_
      refine w_iload_n dX6_heapTakenFrom_8 rfl ?_
      refine y_callS dX6_heapTakenFrom_9 lk_X6_180 [.int (nI x), .int (nI k)] rfl (c_bitsOf E l _ _ _) rfl ⟨⟨by decide, by decide⟩, by decide, by decide⟩ (lb rfl) ?_
      rw [bits_nI hx (by omega)]
      refine w_st (show _ = [.int (nI (dig x k))] from rfl) ?_
      refine w_if_eq (tgt := 17) dX6_heapTakenFrom_12 (by decide) (fun c_12 => ?_) (fun c_12 => ?_)
      · refine w_iinc (v := nI (k + 1)) dX6_heapTakenFrom_17 rfl (nI_inc _) (by decide) rfl ?_
        refine w_goto (tgt := 2) dX6_heapTakenFrom_20 (by decide) ?_
        exact w_lv [2, 0] (ih (k + 1) (by omega) (by rw [← hq, if_neg (by rw [show nzD x k = false from decide_eq_false (fun z => z (n_eq (b := 0) c_12))]; decide)]))
      · refine w_iload_n dX6_heapTakenFrom_15 rfl ?_
        refine w_iret dX6_heapTakenFrom_16 rfl rfl ⟨rt_i (by rw [← hq, if_pos (show nzD x k = true from decide_eq_true (fun z => c_12 (by rw [z]; rfl)))]; rfl), rfl⟩ (by decide) (by decide)
  refine w_iload_n dX6_heapTakenFrom_0 rfl ?_
  refine w_istore_n dX6_heapTakenFrom_1 (by decide) rfl ?_
  exact w_lv [2, 0] (loop (4 - lo) lo (by omega) hQ)
def dxS (F S : Option Nat) (x w : Nat) : Int32 := match w with
  | 0 => (match F with
    | none => 2
    | some _ => (match S with
      | none => 0
      | some _ => 1))
  | 1 => o2i F
  | 2 => o2i S
  | _ => (match F with
    | none => 0
    | some k => nI (dig x k))
set_option maxRecDepth 100000 in
theorem c_describe0 (w0 : GW) {x w : Nat} (hx : x < 2 ^ 31) (hw : w < 4) (F S : Option Nat) (hF : perF (nzD x) 4 0 = F) (hS : ∀ k, F = some k → perF (nzD x) (4 - (k + 1)) (k + 1) = S) (hN : F = none → S = none) : g_Ct E l mX6_describe 2 43 0 0 [.int (nI x), .int (nI w)] w0 (g_is (some (.int (dxS F S x w))) w0) := by
  refine g_Ct.of (by decide +kernel) (lb rfl) ?_
  cases F with
  | none =>
    obtain rfl := hN rfl
    refine w_iload_n dX6_describe_0 rfl ?_
    refine w_iconst (v := 0) dX6_describe_1 (by decide) ?_
    refine y_callS dX6_describe_2 lk_X6_301 [.int (nI x), .int (nI 0)] rfl (c_heapTakenFrom E l _ hx (by omega)) rfl ⟨⟨by decide, by decide⟩, by decide, by decide⟩ (lb rfl) ?_
    rw [show perF (nzD x) (4 - 0) 0 = none from hF]
    refine w_istore_n dX6_describe_5 (by decide) rfl ?_
    refine w_iload_n dX6_describe_6 rfl ?_
    refine w_iconst (v := (-1)) dX6_describe_7 (by decide) ?_
    refine w_icmp_ne (tgt := 15) dX6_describe_8 (by decide) (fun c_8 => absurd (rfl) c_8) (fun c_8 => ?_)
    refine w_iconst (v := (-1)) dX6_describe_11 (by decide) ?_
    refine w_goto (tgt := 22) dX6_describe_12 (by decide) ?_
    refine w_istore_n dX6_describe_22 (by decide) rfl ?_
    refine w_iload_n dX6_describe_23 rfl ?_
    rcases (show w = 0 ∨ w = 1 ∨ w = 2 ∨ w = 3 by omega) with rfl | rfl | rfl | rfl
    · refine w_tblIn (off := 28) (tgt := 52) dX6_describe_24 (by decide) (by decide) (by decide) (by decide) ?_
      refine w_iload_n dX6_describe_52 rfl ?_
      refine w_iconst (v := (-1)) dX6_describe_53 (by decide) ?_
      refine w_icmp_ne (tgt := 61) dX6_describe_54 (by decide) (fun c_54 => absurd (rfl) c_54) (fun c_54 => ?_)
      refine w_iconst (v := 2) dX6_describe_57 (by decide) ?_
      refine w_goto (tgt := 71) dX6_describe_58 (by decide) ?_
      refine w_iret dX6_describe_71 rfl rfl ⟨rfl, rfl⟩ (by decide) (by decide)
    · refine w_tblIn (off := 48) (tgt := 72) dX6_describe_24 (by decide) (by decide) (by decide) (by decide) ?_
      refine w_iload_n dX6_describe_72 rfl ?_
      refine w_iret dX6_describe_73 rfl rfl ⟨rfl, rfl⟩ (by decide) (by decide)
    · refine w_tblIn (off := 50) (tgt := 74) dX6_describe_24 (by decide) (by decide) (by decide) (by decide) ?_
      refine w_iload_n dX6_describe_74 rfl ?_
      refine w_iret dX6_describe_75 rfl rfl ⟨rfl, rfl⟩ (by decide) (by decide)
    · refine w_tblOut (tgt := 76) dX6_describe_24 (by decide) (by decide) ?_
      refine w_iload_n dX6_describe_76 rfl ?_
      refine w_iconst (v := (-1)) dX6_describe_77 (by decide) ?_
      refine w_icmp_ne (tgt := 85) dX6_describe_78 (by decide) (fun c_78 => absurd (rfl) c_78) (fun c_78 => ?_)
      refine w_iconst (v := 0) dX6_describe_81 (by decide) ?_
      refine w_goto (tgt := 90) dX6_describe_82 (by decide) ?_
      refine w_iret dX6_describe_90 rfl rfl ⟨rfl, rfl⟩ (by decide) (by decide)
  | some k =>
    have hk := perF_some hF
    have hne : ¬ o2i (some k) = -1 := by
      intro z
      have := o2i_none z (fun t ht => by cases ht; omega)
      cases this
    refine w_iload_n dX6_describe_0 rfl ?_
    refine w_iconst (v := 0) dX6_describe_1 (by decide) ?_
    refine y_callS dX6_describe_2 lk_X6_301 [.int (nI x), .int (nI 0)] rfl (c_heapTakenFrom E l _ hx (by omega)) rfl ⟨⟨by decide, by decide⟩, by decide, by decide⟩ (lb rfl) ?_
    rw [show perF (nzD x) (4 - 0) 0 = some k from hF]
    refine w_istore_n dX6_describe_5 (by decide) rfl ?_
    refine w_iload_n dX6_describe_6 rfl ?_
    refine w_iconst (v := (-1)) dX6_describe_7 (by decide) ?_
    refine w_icmp_ne (tgt := 15) dX6_describe_8 (by decide) (fun c_8 => ?_) (fun c_8 => absurd c_8 (hne))
    refine w_iload_n dX6_describe_15 rfl ?_
    refine w_iload_n dX6_describe_16 rfl ?_
    refine w_iconst (v := 1) dX6_describe_17 (by decide) ?_
    refine w_iadd dX6_describe_18 ?_
    refine w_st (show _ = [.int (nI (k + 1)), .int (nI x)] from by rw [← nI_1 k]; rfl) ?_
    refine y_callS dX6_describe_19 lk_X6_301 [.int (nI x), .int (nI (k + 1))] rfl (c_heapTakenFrom E l _ hx (by omega)) rfl ⟨⟨by decide, by decide⟩, by decide, by decide⟩ (lb rfl) ?_
    rw [hS k rfl]
    refine w_istore_n dX6_describe_22 (by decide) rfl ?_
    refine w_iload_n dX6_describe_23 rfl ?_
    rcases (show w = 0 ∨ w = 1 ∨ w = 2 ∨ w = 3 by omega) with rfl | rfl | rfl | rfl
    · refine w_tblIn (off := 28) (tgt := 52) dX6_describe_24 (by decide) (by decide) (by decide) (by decide) ?_
      refine w_iload_n dX6_describe_52 rfl ?_
      refine w_iconst (v := (-1)) dX6_describe_53 (by decide) ?_
      refine w_icmp_ne (tgt := 61) dX6_describe_54 (by decide) (fun c_54 => ?_) (fun c_54 => absurd c_54 (hne))
      refine w_iload_n dX6_describe_61 rfl ?_
      refine w_iconst (v := (-1)) dX6_describe_62 (by decide) ?_
      refine w_icmp_ne (tgt := 70) dX6_describe_63 (by decide) (fun c_63 => ?_) (fun c_63 => ?_)
      · refine w_iconst (v := 1) dX6_describe_70 (by decide) ?_
        refine w_iret dX6_describe_71 rfl rfl (by first | exact ⟨rt_i (by obtain ⟨t, ht⟩ := o2i_some c_63; subst ht; rfl), rfl⟩ | exact ⟨rt_i (by have hs0 := o2i_none c_63 (fun t ht => by have := perF_some ((hS k rfl).trans ht); omega); subst hs0; rfl), rfl⟩) (by decide) (by decide)
      · refine w_iconst (v := 0) dX6_describe_66 (by decide) ?_
        refine w_goto (tgt := 71) dX6_describe_67 (by decide) ?_
        refine w_iret dX6_describe_71 rfl rfl (by first | exact ⟨rt_i (by obtain ⟨t, ht⟩ := o2i_some c_63; subst ht; rfl), rfl⟩ | exact ⟨rt_i (by have hs0 := o2i_none c_63 (fun t ht => by have := perF_some ((hS k rfl).trans ht); omega); subst hs0; rfl), rfl⟩) (by decide) (by decide)
    · refine w_tblIn (off := 48) (tgt := 72) dX6_describe_24 (by decide) (by decide) (by decide) (by decide) ?_
      refine w_iload_n dX6_describe_72 rfl ?_
      refine w_iret dX6_describe_73 rfl rfl ⟨rfl, rfl⟩ (by decide) (by decide)
    · refine w_tblIn (off := 50) (tgt := 74) dX6_describe_24 (by decide) (by decide) (by decide) (by decide) ?_
      refine w_iload_n dX6_describe_74 rfl ?_
      refine w_iret dX6_describe_75 rfl rfl ⟨rfl, rfl⟩ (by decide) (by decide)
    · refine w_tblOut (tgt := 76) dX6_describe_24 (by decide) (by decide) ?_
      refine w_iload_n dX6_describe_76 rfl ?_
      refine w_iconst (v := (-1)) dX6_describe_77 (by decide) ?_
      refine w_icmp_ne (tgt := 85) dX6_describe_78 (by decide) (fun c_78 => ?_) (fun c_78 => absurd c_78 (hne))
      refine w_iload_n dX6_describe_85 rfl ?_
      refine w_iload_n dX6_describe_86 rfl ?_
      refine y_callS dX6_describe_87 lk_X6_180 [.int (nI x), .int (nI k)] rfl (c_bitsOf E l _ _ _) rfl ⟨⟨by decide, by decide⟩, by decide, by decide⟩ (lb rfl) ?_
      rw [bits_nI hx (by omega)]
      refine w_iret dX6_describe_90 rfl rfl ⟨rfl, rfl⟩ (by decide) (by decide)
theorem c_describe (w0 : GW) {m : Mv} (hm : mvW m) {w : Nat} (hw : w < 4) : g_Ct E l mX6_describe 2 43 0 0 [.int (nI m.code), .int (nI w)] w0 (g_is (some (.int (deS m w))) w0) := by
  have hx : m.code < 2 ^ 31 := by have := hm.lt; omega
  rcases m with ⟨h, a⟩ | ⟨h, o, a⟩ | ⟨⟩
  · obtain ⟨h1, h2, h3⟩ : h < 4 ∧ 1 ≤ a ∧ a ≤ 15 := hm
    have hd : ∀ k, k < 4 → dig (a * 2 ^ (4 * h)) k = if k = h then a else 0 := fun k hk => dig_mul h3 h1 hk
    have t := c_describe0 E l w0 (x := a * 2 ^ (4 * h)) hx hw (some h) none (perF_fst (Nat.zero_le _) (by omega) (decide_eq_true (by rw [hd h h1, if_pos rfl]; omega)) (fun i _ hi => decide_eq_false (by rw [hd i (by omega), if_neg (by omega)]; omega))) (fun k hk => by cases hk; exact perF_no (fun i hi hi2 => decide_eq_false (by rw [hd i (by omega), if_neg (by omega)]; omega))) (fun z => by cases z)
    rw [show dxS (some h) none (a * 2 ^ (4 * h)) w = deS (.inl (h, a)) w by
      rcases (show w = 0 ∨ w = 1 ∨ w = 2 ∨ w = 3 by omega) with rfl | rfl | rfl | rfl
      · rfl
      · rfl
      · rfl
      · show nI (dig (a * 2 ^ (4 * h)) h) = nI a
        rw [hd h h1, if_pos rfl]] at t
    exact t
  · obtain ⟨h1, h2, h3, h4⟩ : h < o ∧ o < 4 ∧ 1 ≤ a ∧ a ≤ 15 := hm
    have hd : ∀ k, k < 4 → dig (a * (2 ^ (4 * h) + 2 ^ (4 * o))) k = if k = h ∨ k = o then a else 0 := fun k hk => dig_both h4 h1 h2 hk
    have t := c_describe0 E l w0 (x := a * (2 ^ (4 * h) + 2 ^ (4 * o))) hx hw (some h) (some o) (perF_fst (Nat.zero_le _) (by omega) (decide_eq_true (by rw [hd h (by omega), if_pos (Or.inl rfl)]; omega)) (fun i _ hi => decide_eq_false (by rw [hd i (by omega), if_neg (by omega)]; omega))) (fun k hk => by cases hk; exact perF_fst (by omega) (by omega) (decide_eq_true (by rw [hd o h2, if_pos (Or.inr rfl)]; omega)) (fun i hi hi2 => decide_eq_false (by rw [hd i (by omega), if_neg (by omega)]; omega))) (fun z => by cases z)
    rw [show dxS (some h) (some o) (a * (2 ^ (4 * h) + 2 ^ (4 * o))) w = deS (.inr (.inl (h, o, a))) w by
      rcases (show w = 0 ∨ w = 1 ∨ w = 2 ∨ w = 3 by omega) with rfl | rfl | rfl | rfl
      · rfl
      · rfl
      · rfl
      · show nI (dig (a * (2 ^ (4 * h) + 2 ^ (4 * o))) h) = nI a
        rw [hd h (by omega), if_pos (Or.inl rfl)]] at t
    exact t
  · have t := c_describe0 E l w0 (x := 65536) hx hw none none (by decide) (fun k hk => by cases hk) (fun _ => rfl)
    rw [show dxS none none 65536 w = deS (.inr (.inr ())) w by
      rcases (show w = 0 ∨ w = 1 ∨ w = 2 ∨ w = 3 by omega) with rfl | rfl | rfl | rfl <;> rfl] at t
    exact t
end DE
