/-! ROWS: calls that answer a value, calls that answer none -/
section GT2
variable {E : GE} {l : Launch} {μ : GM} {Rm : Room} {Φ : List Frame → Array Value → State → State → Prop} {uc us pc : Nat} {ls : List (Nat × Value)} {st rest : List Value} {Z : GZ} {mc ms : Nat}
variable {I : Nat → Nat → Int32} {J : Nat → Nat → Int64} {R : Nat → Nat → Option Nat} {D : Nat → Nat → UInt64} {n : Nat} {ex : Bool}
variable {idx m f2 q2 mc2 ms2 : Nat} {μ2 : GM} {as : List Value} {w w2 : GW} {r : Option Value} {X : String}
theorem lb {a b : Nat} (h : Nat.ble a b = true) : a ≤ b := Nat.le_of_ble_eq_true h
theorem nI_inc (i : Nat) : nI i + Int32.ofInt 1 = nI (i + 1) := nI_1 i
theorem nI_dec (i : Nat) : nI (i + 1) + Int32.ofInt (-1) = nI i := pk_m1 i
theorem y_callS {v : Value} (hd : decode μ.2.1 pc = .ok (.invokestatic idx, 3)) (hk : g_lkS μ.1.cls idx m μ2) (as : List Value) (hst : st = as.reverse ++ rest) (hC : g_Ct E l μ2 f2 q2 mc2 ms2 as w (g_is (some v) w2)) (hn : as.length = m) (hR8 : (f2 + 1 ≤ Rm.frames ∧ 8 + (μ2.2.2.1 + 11) + q2 ≤ Rm.locals) ∧ uc + mc2 ≤ Rm.cells ∧ us + ms2 ≤ Rm.slots) (hr8 : (rest.map fun v => v.category).sum ≤ 8)
    (kr : g_Wp E l μ Rm Φ (uc + mc2) (us + ms2) (pc + 3) ls (v :: rest) w2) : g_Wp E l μ Rm Φ uc us pc ls st w :=
  x_callS hd hk as hst hC hn hR8 hr8 kr
theorem z_callS (hd : decode μ.2.1 pc = .ok (.invokestatic idx, 3)) (hk : g_lkS μ.1.cls idx m μ2) (as : List Value) (hst : st = as.reverse ++ rest) (hC : g_Ct E l μ2 f2 q2 mc2 ms2 as w (g_is none w2)) (hn : as.length = m) (hR8 : (f2 + 1 ≤ Rm.frames ∧ 8 + (μ2.2.2.1 + 11) + q2 ≤ Rm.locals) ∧ uc + mc2 ≤ Rm.cells ∧ us + ms2 ≤ Rm.slots) (hr8 : (rest.map fun v => v.category).sum ≤ 8)
    (kr : g_Wp E l μ Rm Φ (uc + mc2) (us + ms2) (pc + 3) ls rest w2) : g_Wp E l μ Rm Φ uc us pc ls st w :=
  x_callS hd hk as hst hC hn hR8 hr8 kr
theorem y_callSN {v : Value} (hd : decode μ.2.1 pc = .ok (.invokestatic idx, 3)) (hk : g_lkSN μ.1.cls idx m μ2) (as : List Value) (hst : st = as.reverse ++ rest) (hC : g_Ct E l μ2 f2 q2 mc2 ms2 as w (g_is (some v) w2)) (hn : as.length = m) (hR8 : (f2 + 1 ≤ Rm.frames ∧ 8 + (μ2.2.2.1 + 11) + q2 ≤ Rm.locals) ∧ uc + mc2 ≤ Rm.cells ∧ us + ms2 ≤ Rm.slots) (hr8 : (rest.map fun v => v.category).sum ≤ 8)
    (kr : g_Wp E l μ Rm Φ (uc + mc2) (us + ms2) (pc + 3) ls (v :: rest) w2) : g_Wp E l μ Rm Φ uc us pc ls st w :=
  x_callSN hd hk as hst hC hn hR8 hr8 kr
theorem z_callSN (hd : decode μ.2.1 pc = .ok (.invokestatic idx, 3)) (hk : g_lkSN μ.1.cls idx m μ2) (as : List Value) (hst : st = as.reverse ++ rest) (hC : g_Ct E l μ2 f2 q2 mc2 ms2 as w (g_is none w2)) (hn : as.length = m) (hR8 : (f2 + 1 ≤ Rm.frames ∧ 8 + (μ2.2.2.1 + 11) + q2 ≤ Rm.locals) ∧ uc + mc2 ≤ Rm.cells ∧ us + ms2 ≤ Rm.slots) (hr8 : (rest.map fun v => v.category).sum ≤ 8)
    (kr : g_Wp E l μ Rm Φ (uc + mc2) (us + ms2) (pc + 3) ls rest w2) : g_Wp E l μ Rm Φ uc us pc ls st w :=
  x_callSN hd hk as hst hC hn hR8 hr8 kr
theorem y_callSX {v : Value} (hd : decode μ.2.1 pc = .ok (.invokestatic idx, 3)) (hk : g_lkSX μ.1.cls idx m μ2) (as : List Value) (hst : st = as.reverse ++ rest) (hC : g_Ct E l μ2 f2 q2 mc2 ms2 as w (g_is (some v) w2)) (hn : as.length = m) (hR8 : (f2 + 1 ≤ Rm.frames ∧ 8 + (μ2.2.2.1 + 11) + q2 ≤ Rm.locals) ∧ uc + mc2 ≤ Rm.cells ∧ us + ms2 ≤ Rm.slots) (hr8 : (rest.map fun v => v.category).sum ≤ 8)
    (kr : g_Wp E l μ Rm Φ (uc + mc2) (us + ms2) (pc + 3) ls (v :: rest) w2) : g_Wp E l μ Rm Φ uc us pc ls st w :=
  x_callSX hd hk as hst hC hn hR8 hr8 kr
theorem z_callSX (hd : decode μ.2.1 pc = .ok (.invokestatic idx, 3)) (hk : g_lkSX μ.1.cls idx m μ2) (as : List Value) (hst : st = as.reverse ++ rest) (hC : g_Ct E l μ2 f2 q2 mc2 ms2 as w (g_is none w2)) (hn : as.length = m) (hR8 : (f2 + 1 ≤ Rm.frames ∧ 8 + (μ2.2.2.1 + 11) + q2 ≤ Rm.locals) ∧ uc + mc2 ≤ Rm.cells ∧ us + ms2 ≤ Rm.slots) (hr8 : (rest.map fun v => v.category).sum ≤ 8)
    (kr : g_Wp E l μ Rm Φ (uc + mc2) (us + ms2) (pc + 3) ls rest w2) : g_Wp E l μ Rm Φ uc us pc ls st w :=
  x_callSX hd hk as hst hC hn hR8 hr8 kr
theorem y_callV {v : Value} {o : Nat} (hd : decode μ.2.1 pc = .ok (.invokevirtual idx, 3)) (hk : g_lkV μ.1.cls idx m μ2) (As : List Value) (hst : st = As.reverse ++ .ref o :: rest) (hC : g_Ct E l μ2 f2 q2 mc2 ms2 (.ref o :: As) w (g_is (some v) w2)) (hrv : g_recv E l w o μ2.1.cls) (hn : As.length = m) (hR8 : (f2 + 1 ≤ Rm.frames ∧ 8 + (μ2.2.2.1 + 11) + q2 ≤ Rm.locals) ∧ uc + mc2 ≤ Rm.cells ∧ us + ms2 ≤ Rm.slots) (hr8 : (rest.map fun v => v.category).sum ≤ 8)
    (kr : g_Wp E l μ Rm Φ (uc + mc2) (us + ms2) (pc + 3) ls (v :: rest) w2) : g_Wp E l μ Rm Φ uc us pc ls st w :=
  x_callV hd hk As hst hC hrv hn hR8 hr8 kr
theorem z_callV {o : Nat} (hd : decode μ.2.1 pc = .ok (.invokevirtual idx, 3)) (hk : g_lkV μ.1.cls idx m μ2) (As : List Value) (hst : st = As.reverse ++ .ref o :: rest) (hC : g_Ct E l μ2 f2 q2 mc2 ms2 (.ref o :: As) w (g_is none w2)) (hrv : g_recv E l w o μ2.1.cls) (hn : As.length = m) (hR8 : (f2 + 1 ≤ Rm.frames ∧ 8 + (μ2.2.2.1 + 11) + q2 ≤ Rm.locals) ∧ uc + mc2 ≤ Rm.cells ∧ us + ms2 ≤ Rm.slots) (hr8 : (rest.map fun v => v.category).sum ≤ 8)
    (kr : g_Wp E l μ Rm Φ (uc + mc2) (us + ms2) (pc + 3) ls rest w2) : g_Wp E l μ Rm Φ uc us pc ls st w :=
  x_callV hd hk As hst hC hrv hn hR8 hr8 kr
theorem y_callI {v : Value} {o : Nat} (hd : decode μ.2.1 pc = .ok (.invokespecial idx, 3)) (hk : g_lkI μ.1.cls idx m μ2) (As : List Value) (hst : st = As.reverse ++ .ref o :: rest) (hC : g_Ct E l μ2 f2 q2 mc2 ms2 (.ref o :: As) w (g_is (some v) w2)) (hn : As.length = m) (hR8 : (f2 + 1 ≤ Rm.frames ∧ 8 + (μ2.2.2.1 + 11) + q2 ≤ Rm.locals) ∧ uc + mc2 ≤ Rm.cells ∧ us + ms2 ≤ Rm.slots) (hr8 : (rest.map fun v => v.category).sum ≤ 8)
    (kr : g_Wp E l μ Rm Φ (uc + mc2) (us + ms2) (pc + 3) ls (v :: rest) w2) : g_Wp E l μ Rm Φ uc us pc ls st w :=
  x_callI hd hk As hst hC hn hR8 hr8 kr
theorem z_callI {o : Nat} (hd : decode μ.2.1 pc = .ok (.invokespecial idx, 3)) (hk : g_lkI μ.1.cls idx m μ2) (As : List Value) (hst : st = As.reverse ++ .ref o :: rest) (hC : g_Ct E l μ2 f2 q2 mc2 ms2 (.ref o :: As) w (g_is none w2)) (hn : As.length = m) (hR8 : (f2 + 1 ≤ Rm.frames ∧ 8 + (μ2.2.2.1 + 11) + q2 ≤ Rm.locals) ∧ uc + mc2 ≤ Rm.cells ∧ us + ms2 ≤ Rm.slots) (hr8 : (rest.map fun v => v.category).sum ≤ 8)
    (kr : g_Wp E l μ Rm Φ (uc + mc2) (us + ms2) (pc + 3) ls rest w2) : g_Wp E l μ Rm Φ uc us pc ls st w :=
  x_callI hd hk As hst hC hn hR8 hr8 kr
theorem y_callIN {v : Value} {o : Nat} (hd : decode μ.2.1 pc = .ok (.invokespecial idx, 3)) (hk : g_lkIN μ.1.cls idx m μ2) (As : List Value) (hst : st = As.reverse ++ .ref o :: rest) (hC : g_Ct E l μ2 f2 q2 mc2 ms2 (.ref o :: As) w (g_is (some v) w2)) (hn : As.length = m) (hR8 : (f2 + 1 ≤ Rm.frames ∧ 8 + (μ2.2.2.1 + 11) + q2 ≤ Rm.locals) ∧ uc + mc2 ≤ Rm.cells ∧ us + ms2 ≤ Rm.slots) (hr8 : (rest.map fun v => v.category).sum ≤ 8)
    (kr : g_Wp E l μ Rm Φ (uc + mc2) (us + ms2) (pc + 3) ls (v :: rest) w2) : g_Wp E l μ Rm Φ uc us pc ls st w :=
  x_callIN hd hk As hst hC hn hR8 hr8 kr
theorem z_callIN {o : Nat} (hd : decode μ.2.1 pc = .ok (.invokespecial idx, 3)) (hk : g_lkIN μ.1.cls idx m μ2) (As : List Value) (hst : st = As.reverse ++ .ref o :: rest) (hC : g_Ct E l μ2 f2 q2 mc2 ms2 (.ref o :: As) w (g_is none w2)) (hn : As.length = m) (hR8 : (f2 + 1 ≤ Rm.frames ∧ 8 + (μ2.2.2.1 + 11) + q2 ≤ Rm.locals) ∧ uc + mc2 ≤ Rm.cells ∧ us + ms2 ≤ Rm.slots) (hr8 : (rest.map fun v => v.category).sum ≤ 8)
    (kr : g_Wp E l μ Rm Φ (uc + mc2) (us + ms2) (pc + 3) ls rest w2) : g_Wp E l μ Rm Φ uc us pc ls st w :=
  x_callIN hd hk As hst hC hn hR8 hr8 kr
end GT2
