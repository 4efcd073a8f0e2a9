/-! ROWS: returns, calls, throws, catches -/
section GC
variable {E : GE} {l : Launch} {μ : GM} {R : Room} {Φ : List Frame → Array Value → State → State → Prop} {uc us pc : Nat} {ls : List (Nat × Value)} {st rest : List Value} {w w' : GW} {Z : GZ} {mc ms : Nat}
theorem g_post {args : Array Value} {s t : State} {H : Heap} {locs : List Loc} (hR : g_Rp E w H) (hS : va_S (g_A E) s.heap H locs) (ht : t.heap = H) (v : Option Value) (hz : Z (.inr v) w) : g_Qc E Z args s (.returned (v.map (cv E))) t :=
  ⟨v, w, rfl, hz, by rw [ht]; exact hR, by rw [va_F, ht]; exact ⟨hS.1, hS.2.1⟩⟩
theorem w_iret {x : Int32} {ty : FieldType} (hd : decode μ.2.1 pc = .ok (.ireturn, 1)) (hr : μ.2.2.2.1 = some ty) (hn : narrow ty (.int x) = .int x) (hz : Z (.inr (some (.int x))) w) (hc : uc ≤ mc) (hs : us ≤ ms) : g_Wp E l μ R (g_Fin E Z mc ms) uc us pc ls [.int x] w :=
  fun p e s m args below meth c H locs lsA C hR hS hl => W.widen hc hs (vx_ret (W.zret (ty := ty) C.1 C.2.1 (C.2.2.2.2.2.1.trans hr) hn (fun t ht _ => g_post hR hS ht (some (.int x)) hz) hS.2.2 hd C.2.2.2.2.2.2.1))
theorem w_lret {x : Int64} (hd : decode μ.2.1 pc = .ok (.lreturn, 1)) (hr : μ.2.2.2.1 = some .long) (hz : Z (.inr (some (.long x))) w) (hc : uc ≤ mc) (hs : us ≤ ms) : g_Wp E l μ R (g_Fin E Z mc ms) uc us pc ls [.long x] w :=
  fun p e s m args below meth c H locs lsA C hR hS hl => W.widen hc hs (vx_ret (W.lret C.1 C.2.1 (C.2.2.2.2.2.1.trans hr) (fun t ht _ => g_post hR hS ht (some (.long x)) hz) hS.2.2 hd C.2.2.2.2.2.2.1))
theorem w_dret {x : UInt64} (hd : decode μ.2.1 pc = .ok (.dreturn, 1)) (hr : μ.2.2.2.1 = some .double) (hz : Z (.inr (some (.double x))) w) (hc : uc ≤ mc) (hs : us ≤ ms) : g_Wp E l μ R (g_Fin E Z mc ms) uc us pc ls [.double x] w :=
  fun p e s m args below meth c H locs lsA C hR hS hl => W.widen hc hs (vx_ret (W.dret C.1 C.2.1 (C.2.2.2.2.2.1.trans hr) (fun t ht _ => g_post hR hS ht (some (.double x)) hz) hS.2.2 hd C.2.2.2.2.2.2.1))
theorem w_aret {x : Nat} {rt : FieldType} (hd : decode μ.2.1 pc = .ok (.areturn, 1)) (hr : μ.2.2.2.1 = some rt) (hrt : (∃ n, rt = .object n) ∨ ∃ t, rt = .array t) (hz : Z (.inr (some (.ref x))) w) (hc : uc ≤ mc) (hs : us ≤ ms) : g_Wp E l μ R (g_Fin E Z mc ms) uc us pc ls [.ref x] w :=
  fun p e s m args below meth c H locs lsA C hR hS hl => W.widen hc hs (vx_ret (W.aret C.1 C.2.1 (C.2.2.2.2.2.1.trans hr) hrt (Or.inr ⟨_, rfl⟩) (fun t ht _ => g_post hR hS ht (some (.ref x)) hz) hS.2.2 hd C.2.2.2.2.2.2.1))
theorem w_vret (hd : decode μ.2.1 pc = .ok (.return_, 1)) (hr : μ.2.2.2.1 = none) (hz : Z (.inr none) w) (hc : uc ≤ mc) (hs : us ≤ ms) : g_Wp E l μ R (g_Fin E Z mc ms) uc us pc ls [] w :=
  fun p e s m args below meth c H locs lsA C hR hS hl => W.widen hc hs (vx_ret (W.vret C.1 C.2.1 (C.2.2.2.2.2.1.trans hr) (fun t ht _ => g_post hR hS ht none hz) hS.2.2 hd C.2.2.2.2.2.2.1))
/-- thrown, no handler: it leaves -/
theorem w_out {X : String} (hh : μ.2.2.2.2 = []) (hz : Z (.inl X) w) (hc : uc ≤ mc) (hs : us ≤ ms) : g_Wx E l μ R (g_Fin E Z mc ms) uc us pc ls st w X := by
  intro p e s m args below meth c H locs lsA q ce C hR hS hl h1 h2 h3
  refine vx_out (mc := mc) (ms := ms) ?_ C.2.2.2.2.2.2.1 h1 h2 h3 (fun t ht _ => ⟨w, hz, by rw [ht]; exact hR, by rw [va_F, ht]; exact ⟨hS.1, hS.2.1⟩⟩) hS.2.2 hc hs
  rw [C.2.2.2.2.2.2.2.1, hh]
  intro x hx
  cases hx
/-- behind a call -/
theorem g_after {p : Program} {e : Env} {s : State} {m : MethodId} {args : Array Value} {below : List Frame} {meth : Method} {c : Code} {H : Heap} {locs : List Loc} {lsA : Array Slot} {a : Array Value} {st0 : List Value} {mc2 ms2 : Nat} {Z2 : GZ}
    (hr : vx_Run p l e R s m args below meth c H locs uc us mc2 ms2 (F0 m pc lsA st0) (rest.map (cv E)) (g_Qc E Z2 a) (g_XC E Z2) (g_A E)) (C : g_Cx E l μ p s m args meth c) (hS : va_S (g_A E) s.heap H locs) (hl : lv_has lsA μ.2.2.1 (g_ls E ls))
    (kr : ∀ v w', Z2 (.inr v) w' → g_Wp E l μ R Φ (uc + mc2) (us + ms2) (pc + 3) ls (v.toList ++ rest) w') (kx : ∀ X w', Z2 (.inl X) w' → g_Wx E l μ R Φ (uc + mc2) (us + ms2) pc ls rest w' X) :
    W p l e R s m args below meth c H locs uc us (Φ below args s) (F0 m pc lsA st0) := by
  intro T hT X
  rcases hr T hT X with ⟨v, st₀, t, T', L, h0, X', hL, e1, e2, ⟨v', w', hv, hz, hR', hF⟩, st⟩ | ⟨q, st₀, t, T', L, EX, ce, h0, X', hL, e1, e2, ⟨w', hz, hR', hF⟩, hce, hcv, hcl, st⟩
  · cases hv
    obtain ⟨k1, k2, k3⟩ := vx_keep h0 e1 hS (fun _ _ h => h) (fun _ h => h) hL hF
    have hk := kr v' w' hz p e s m args below meth c T'.heap (locs ++ L) lsA C (by rw [e1]; exact hR') k3 hl
    have hst : (v'.toList ++ rest).map (cv E) = (v'.map (cv E)).toList ++ rest.map (cv E) := by cases v' <;> rfl
    rw [hst] at hk
    obtain ⟨t2, a1, b1⟩ := hk T' rfl X'
    exact ⟨t2, st t2 a1, b1⟩
  · obtain ⟨k1, k2, k3⟩ := vx_keep h0 e1 hS (fun _ _ h => h) (fun _ h => h) hL hF
    obtain ⟨t2, a1, b1⟩ := kx EX w' hz p e s m args below meth c T'.heap (locs ++ L) lsA q ce C (by rw [e1]; exact hR') k3 hl (by rw [e1]; exact hce) hcv hcl T' rfl X'
    exact ⟨t2, st.trans a1, b1⟩
theorem g_pre {p : Program} {s : State} {m : MethodId} {args : Array Value} {meth : Method} {c : Code} {H : Heap} {locs : List Loc} {as : List Value} (C : g_Cx E l μ p s m args meth c) (hR : g_Rp E w H) (hS : va_S (g_A E) s.heap H locs) (U : State) (hU : U.heap = H) (hW : s.WarmedH U.vm) :
    g_Pc E l as w (as.map (cv E)).toArray U := by
  refine ⟨rfl, by rw [hU]; exact hR, ?_, by rw [hU]; exact hR.1⟩
  rw [hU]
  exact (C.2.2.2.2.2.2.2.2.2.1.kept hS.2.1).warm hW
/-- how a call is linked: n its parameters but the receiver -/
def g_lk0 (n : Nat) (μ2 : GM) : Prop := Cond.initialized μ2.1.cls ∈ gw ∧ g_cd μ2 ∈ gw ∧ (μ2.1.cls ≠ "java/lang/invoke/MethodHandle" ∧ μ2.1.cls ≠ "java/lang/invoke/VarHandle" ∧ (parseMethodDescriptor μ2.1.desc).map (fun d => d.parameters.length) = some n)
def g_lkS (own : String) (idx n : Nat) (μ2 : GM) : Prop := g_lk0 n μ2 ∧ μ2.2.2.2.2 = [] ∧ Cond.methodLink own idx μ2.1 ∈ gw ∧ Cond.static μ2.1 ∈ gw
def g_lkSN (own : String) (idx n : Nat) (μ2 : GM) : Prop := g_lk0 n μ2 ∧ μ2.2.2.2.2 = [] ∧ (own, idx, μ2.1, RX6) ∈ g_nest ∧ Cond.static μ2.1 ∈ gw
def g_lkSX (own : String) (idx n : Nat) (μ2 : GM) : Prop := g_lk0 n μ2 ∧ ¬ μ2.2.2.2.2 = [] ∧ Cond.methodLink own idx μ2.1 ∈ gw ∧ Cond.static μ2.1 ∈ gw
def g_lkV (own : String) (idx n : Nat) (μ2 : GM) : Prop := g_lk0 n μ2 ∧ μ2.2.2.2.2 = [] ∧ Cond.methodLink own idx μ2.1 ∈ gw ∧ Cond.instanceMethod μ2.1 ∈ gw ∧ Cond.selects μ2.1.cls μ2.1 μ2.1 ∈ gw
def g_lkI (own : String) (idx n : Nat) (μ2 : GM) : Prop := g_lk0 n μ2 ∧ μ2.2.2.2.2 = [] ∧ Cond.methodLink own idx μ2.1 ∈ gw ∧ Cond.instanceMethod μ2.1 ∈ gw ∧ μ2.1.name = "<init>" ∧ μ2.2.2.2.1 = none
def g_lkIN (own : String) (idx n : Nat) (μ2 : GM) : Prop := g_lk0 n μ2 ∧ μ2.2.2.2.2 = [] ∧ (own, idx, μ2.1, RX6) ∈ g_nest ∧ Cond.instanceMethod μ2.1 ∈ gw ∧ μ2.1.name = "<init>" ∧ μ2.2.2.2.1 = none
theorem g_cd0 {μ2 : GM} (h : μ2.2.2.2.2 = []) : g_mw μ2 = Cond.code μ2.1 μ2.2.1 μ2.2.2.1 μ2.2.2.2.1 :: gw := by unfold g_mw g_cd; rw [if_pos h]
theorem g_cdX {μ2 : GM} (h : ¬ μ2.2.2.2.2 = []) : g_mw μ2 = Cond.codeWith μ2.1 μ2.2.1 μ2.2.2.1 μ2.2.2.2.1 μ2.2.2.2.2 :: gw := by unfold g_mw g_cd; rw [if_neg h]
theorem g_cats (E : GE) (rest : List Value) : (rest.map (cv E)).map (fun v => v.category) = rest.map (fun v => v.category) := by
  rw [List.map_map]
  exact List.map_congr_left (fun v _ => cv_cat E v)
theorem g_rm {m : MethodId} {lsA : Array Slot} {st0 : List Value} (h : (rest.map fun v => v.category).sum ≤ 8) : 2 * (F0 m pc lsA st0).monitorRoom + ((rest.map (cv E)).map fun v => v.category).sum ≤ 8 := lv_room (by rw [g_cats]; exact h)
variable {idx n f2 q2 mc2 ms2 : Nat} {μ2 : GM} {as : List Value} {Z2 : GZ}
theorem w_callS (hd : decode μ.2.1 pc = .ok (.invokestatic idx, 3)) (hk : g_lkS μ.1.cls idx n μ2) (hC : g_Ct E l μ2 f2 q2 mc2 ms2 as w Z2) (hst : st = as.reverse ++ rest) (hn : as.length = n) (hR8 : (f2 + 1 ≤ R.frames ∧ 8 + (μ2.2.2.1 + 11) + q2 ≤ R.locals) ∧ uc + mc2 ≤ R.cells ∧ us + ms2 ≤ R.slots) (hr8 : (rest.map fun v => v.category).sum ≤ 8)
    (kr : ∀ v w', Z2 (.inr v) w' → g_Wp E l μ R Φ (uc + mc2) (us + ms2) (pc + 3) ls (v.toList ++ rest) w') (kx : ∀ X w', Z2 (.inl X) w' → g_Wx E l μ R Φ (uc + mc2) (us + ms2) pc ls rest w' X) : g_Wp E l μ R Φ uc us pc ls st w := by
  intro p e s m args below meth c H locs lsA C hR hS hl
  obtain ⟨⟨hini, hcd, hds⟩, hh, hml, hstt⟩ := hk
  have ht := C.2.2.2.2.1
  refine g_after (rest := rest) (a := (as.map (cv E)).toArray) (vx_runS (As := as.map (cv E)) (Ts := g_mw μ) ⟨C.1, C.2.1, C.2.2.1, C.2.2.2.1, ht⟩ hC ⟨callB_of n ht (g_mwin hcd) (g_cd0 hh) rfl rfl (ht _ (g_mwgw μ _ hini)) (ht _ (g_mwgw μ _ hml)) hds hR8.1, ht _ (g_mwgw μ _ hstt)⟩ ⟨g_Pc.blind, g_pre C hR hS⟩ rfl (by rw [List.length_map]; exact hn) hl.1 (by subst hst; show (as.reverse ++ rest).map (cv E) = _; simp) (g_rm hr8) hd hR8.2) C hS hl kr kx
theorem w_callSN (hd : decode μ.2.1 pc = .ok (.invokestatic idx, 3)) (hk : g_lkSN μ.1.cls idx n μ2) (hC : g_Ct E l μ2 f2 q2 mc2 ms2 as w Z2) (hst : st = as.reverse ++ rest) (hn : as.length = n) (hR8 : (f2 + 1 ≤ R.frames ∧ 8 + (μ2.2.2.1 + 11) + q2 ≤ R.locals) ∧ uc + mc2 ≤ R.cells ∧ us + ms2 ≤ R.slots) (hr8 : (rest.map fun v => v.category).sum ≤ 8)
    (kr : ∀ v w', Z2 (.inr v) w' → g_Wp E l μ R Φ (uc + mc2) (us + ms2) (pc + 3) ls (v.toList ++ rest) w') (kx : ∀ X w', Z2 (.inl X) w' → g_Wx E l μ R Φ (uc + mc2) (us + ms2) pc ls rest w' X) : g_Wp E l μ R Φ uc us pc ls st w := by
  intro p e s m args below meth c H locs lsA C hR hS hl
  obtain ⟨⟨hini, hcd, hds⟩, hh, hml, hstt⟩ := hk
  have ht := C.2.2.2.2.1
  have hnw := C.2.2.2.2.2.2.2.2.2.1.2.2.1 _ hml
  refine g_after (rest := rest) (a := (as.map (cv E)).toArray) (vx_runSN (As := as.map (cv E)) (Ts := g_mw μ) (host := RX6) ⟨C.1, C.2.1, C.2.2.1, C.2.2.2.1, ht⟩ hC ⟨va_cnB n ht (g_mwin hcd) (g_cd0 hh) rfl rfl hnw (ht _ (g_mwgw μ _ hini)) hds hR8.1, ht _ (g_mwgw μ _ hstt), trivial⟩ ⟨g_Pc.blind, g_pre C hR hS⟩ rfl (by rw [List.length_map]; exact hn) hl.1 (by subst hst; show (as.reverse ++ rest).map (cv E) = _; simp) (g_rm hr8) hd hR8.2) C hS hl kr kx
theorem w_callSX (hd : decode μ.2.1 pc = .ok (.invokestatic idx, 3)) (hk : g_lkSX μ.1.cls idx n μ2) (hC : g_Ct E l μ2 f2 q2 mc2 ms2 as w Z2) (hst : st = as.reverse ++ rest) (hn : as.length = n) (hR8 : (f2 + 1 ≤ R.frames ∧ 8 + (μ2.2.2.1 + 11) + q2 ≤ R.locals) ∧ uc + mc2 ≤ R.cells ∧ us + ms2 ≤ R.slots) (hr8 : (rest.map fun v => v.category).sum ≤ 8)
    (kr : ∀ v w', Z2 (.inr v) w' → g_Wp E l μ R Φ (uc + mc2) (us + ms2) (pc + 3) ls (v.toList ++ rest) w') (kx : ∀ X w', Z2 (.inl X) w' → g_Wx E l μ R Φ (uc + mc2) (us + ms2) pc ls rest w' X) : g_Wp E l μ R Φ uc us pc ls st w := by
  intro p e s m args below meth c H locs lsA C hR hS hl
  obtain ⟨⟨hini, hcd, hds⟩, hh, hml, hstt⟩ := hk
  have ht := C.2.2.2.2.1
  have hG : GoodIn (g_mw μ) (va_wsS μ.1.cls idx μ2.1 (g_mw μ2)) := by
    intro w hw
    unfold va_wsS at hw
    rcases List.mem_append.mp hw with hw | hw
    · have : w ∈ gw := by
        rcases List.mem_cons.mp hw with rfl | hw
        · exact hml
        · rcases List.mem_cons.mp hw with rfl | hw
          · exact hstt
          · rcases List.mem_cons.mp hw with rfl | hw
            · exact hini
            · cases hw
      exact g_good this (g_mwgw μ)
    · exact g_mwin hcd w hw
  refine g_after (rest := rest) (a := (as.map (cv E)).toArray) (vx_runSX (As := as.map (cv E)) (Ts := g_mw μ) (hh := μ2.2.2.2.2) ⟨C.1, C.2.1, C.2.2.1, C.2.2.2.1, ht⟩ hC (vx_cwSW n ht hG (g_cdX hh) rfl rfl hds hR8.1) ⟨g_Pc.blind, g_pre C hR hS⟩ rfl (by rw [List.length_map]; exact hn) hl.1 (by subst hst; show (as.reverse ++ rest).map (cv E) = _; simp) (g_rm hr8) hd hR8.2) C hS hl kr kx
/-- a receiver: an object of that class -/
def g_recv (E : GE) (l : Launch) (w : GW) (o : Nat) (C : String) : Prop := ∀ (s : State) (H : Heap) (locs : List Loc), g_K E l s s.heap → g_Rp E w H → va_S (g_A E) s.heap H locs → ∃ cell : Cell, H[g_ad E o]? = some cell ∧ cell.vm.isStatics = false ∧ s.vm.findClass C = some cell.cls
theorem g_recv.obj {o ci : Nat} (ho : (g_ob o).1 = ci) (hc : ci < 8) (hn : o < w.2.2.2.2.1) : g_recv E l w o (g_R ci) := by
  intro s H locs hK hR hS
  have hat := (hR.at hn (g_lvk ho (by omega))).1 (by rw [ho]; exact hc)
  rw [ho] at hat
  obtain ⟨cell, q1, q2, q3, q4⟩ := hat
  refine ⟨cell, q1, by rw [q3]; rfl, ?_⟩
  rw [q2]
  exact (hK.2.1.1 ci _ (g_clat hc)).2.1
theorem g_recv.str {i : Nat} (hi : i < 21) : g_recv E l w (1001 + i) "java/lang/String" := by
  intro s H locs hK hR hS
  have h := vk_recv hK.2.2.2.2.2.2.1 hi hS
  have e : g_ad E (1001 + i) = E.2.2.2.1.1 (1 + i) := by
    unfold g_ad
    rw [if_neg (by omega), show 1001 + i - 1000 = 1 + i by omega]
  rw [e]
  exact h
theorem w_callV {o : Nat} {As : List Value} (hd : decode μ.2.1 pc = .ok (.invokevirtual idx, 3)) (hk : g_lkV μ.1.cls idx n μ2) (hC : g_Ct E l μ2 f2 q2 mc2 ms2 (.ref o :: As) w Z2) (hrv : g_recv E l w o μ2.1.cls) (hst : st = As.reverse ++ .ref o :: rest) (hn : As.length = n) (hR8 : (f2 + 1 ≤ R.frames ∧ 8 + (μ2.2.2.1 + 11) + q2 ≤ R.locals) ∧ uc + mc2 ≤ R.cells ∧ us + ms2 ≤ R.slots) (hr8 : (rest.map fun v => v.category).sum ≤ 8)
    (kr : ∀ v w', Z2 (.inr v) w' → g_Wp E l μ R Φ (uc + mc2) (us + ms2) (pc + 3) ls (v.toList ++ rest) w') (kx : ∀ X w', Z2 (.inl X) w' → g_Wx E l μ R Φ (uc + mc2) (us + ms2) pc ls rest w' X) : g_Wp E l μ R Φ uc us pc ls st w := by
  intro p e s m args below meth c H locs lsA C hR hS hl
  obtain ⟨⟨hini, hcd, hds⟩, hh, hml, hins, hsel⟩ := hk
  have ht := C.2.2.2.2.1
  refine g_after (rest := rest) (a := ((.ref o :: As : List Value).map (cv E)).toArray) (vx_runV (C := μ2.1.cls) (b := g_ad E o) (As := As.map (cv E)) (Ts := g_mw μ) ⟨C.1, C.2.1, C.2.2.1, C.2.2.2.1, ht⟩ hC ⟨callB_of n ht (g_mwin hcd) (g_cd0 hh) rfl rfl (ht _ (g_mwgw μ _ hini)) (ht _ (g_mwgw μ _ hml)) hds hR8.1, ht _ (g_mwgw μ _ hins), ht _ (g_mwgw μ _ hsel)⟩ ⟨g_Pc.blind, hrv s H locs C.2.2.2.2.2.2.2.2.2.1 hR hS, g_pre (as := .ref o :: As) C hR hS⟩ rfl (by rw [List.length_map]; exact hn) hl.1 (by subst hst; show (As.reverse ++ .ref o :: rest).map (cv E) = _; simp [cv]) (g_rm hr8) hd hR8.2) C hS hl kr kx
theorem w_callI {o : Nat} {As : List Value} (hd : decode μ.2.1 pc = .ok (.invokespecial idx, 3)) (hk : g_lkI μ.1.cls idx n μ2) (hC : g_Ct E l μ2 f2 q2 mc2 ms2 (.ref o :: As) w Z2) (hst : st = As.reverse ++ .ref o :: rest) (hn : As.length = n) (hR8 : (f2 + 1 ≤ R.frames ∧ 8 + (μ2.2.2.1 + 11) + q2 ≤ R.locals) ∧ uc + mc2 ≤ R.cells ∧ us + ms2 ≤ R.slots) (hr8 : (rest.map fun v => v.category).sum ≤ 8)
    (kr : ∀ v w', Z2 (.inr v) w' → g_Wp E l μ R Φ (uc + mc2) (us + ms2) (pc + 3) ls (v.toList ++ rest) w') (kx : ∀ X w', Z2 (.inl X) w' → g_Wx E l μ R Φ (uc + mc2) (us + ms2) pc ls rest w' X) : g_Wp E l μ R Φ uc us pc ls st w := by
  intro p e s m args below meth c H locs lsA C hR hS hl
  obtain ⟨⟨hini, hcd, hds⟩, hh, hml, hins, hnm, hrt⟩ := hk
  have ht := C.2.2.2.2.1
  have hcd0 := g_cd0 hh
  rw [hrt] at hcd0
  refine g_after (rest := rest) (a := ((.ref o :: As : List Value).map (cv E)).toArray) (vx_runI (b := g_ad E o) (As := As.map (cv E)) (Ts := g_mw μ) ⟨C.1, C.2.1, C.2.2.1, C.2.2.2.1, ht⟩ hC ⟨callB_of n ht (g_mwin hcd) hcd0 rfl rfl (ht _ (g_mwgw μ _ hini)) (ht _ (g_mwgw μ _ hml)) hds hR8.1, hnm, ht _ (g_mwgw μ _ hins)⟩ ⟨g_Pc.blind, g_pre (as := .ref o :: As) C hR hS⟩ rfl (by rw [List.length_map]; exact hn) hl.1 (by subst hst; show (As.reverse ++ .ref o :: rest).map (cv E) = _; simp [cv]) (g_rm hr8) hd hR8.2) C hS hl kr kx
theorem w_callIN {o : Nat} {As : List Value} (hd : decode μ.2.1 pc = .ok (.invokespecial idx, 3)) (hk : g_lkIN μ.1.cls idx n μ2) (hC : g_Ct E l μ2 f2 q2 mc2 ms2 (.ref o :: As) w Z2) (hst : st = As.reverse ++ .ref o :: rest) (hn : As.length = n) (hR8 : (f2 + 1 ≤ R.frames ∧ 8 + (μ2.2.2.1 + 11) + q2 ≤ R.locals) ∧ uc + mc2 ≤ R.cells ∧ us + ms2 ≤ R.slots) (hr8 : (rest.map fun v => v.category).sum ≤ 8)
    (kr : ∀ v w', Z2 (.inr v) w' → g_Wp E l μ R Φ (uc + mc2) (us + ms2) (pc + 3) ls (v.toList ++ rest) w') (kx : ∀ X w', Z2 (.inl X) w' → g_Wx E l μ R Φ (uc + mc2) (us + ms2) pc ls rest w' X) : g_Wp E l μ R Φ uc us pc ls st w := by
  intro p e s m args below meth c H locs lsA C hR hS hl
  obtain ⟨⟨hini, hcd, hds⟩, hh, hml, hins, hnm, hrt⟩ := hk
  have ht := C.2.2.2.2.1
  have hcd0 := g_cd0 hh
  rw [hrt] at hcd0
  have hnw := C.2.2.2.2.2.2.2.2.2.1.2.2.1 _ hml
  refine g_after (rest := rest) (a := ((.ref o :: As : List Value).map (cv E)).toArray) (vx_runIN (b := g_ad E o) (As := As.map (cv E)) (Ts := g_mw μ) (host := RX6) ⟨C.1, C.2.1, C.2.2.1, C.2.2.2.1, ht⟩ hC ⟨va_cnB n ht (g_mwin hcd) hcd0 rfl rfl hnw (ht _ (g_mwgw μ _ hini)) hds hR8.1, hnm, ht _ (g_mwgw μ _ hins)⟩ ⟨g_Pc.blind, g_pre (as := .ref o :: As) C hR hS⟩ rfl (by rw [List.length_map]; exact hn) hl.1 (by subst hst; show (As.reverse ++ .ref o :: rest).map (cv E) = _; simp [cv]) (g_rm hr8) hd hR8.2) C hS hl kr kx
end GC
