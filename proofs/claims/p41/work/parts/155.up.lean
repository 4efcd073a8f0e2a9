/-! ROWS: calls on a StringBuilder of what its superclass has: inherited, private there, by super -/
def g_lkU (own : String) (idx n : Nat) (μ2 : GM) : Prop := g_lk0 n μ2 ∧ μ2.2.2.2.2 = [] ∧ Cond.methodLink own idx μ2.1 ∈ gw ∧ Cond.instanceMethod μ2.1 ∈ gw ∧ Cond.sameMethod μ2.1.cls μ2.1.cls μ2.1.name μ2.1.desc ∈ gw ∧ μ2.1.cls = RJ5 ∧ Cond.selects RJ4 μ2.1 μ2.1 ∈ gw
def g_lkP (own : String) (idx n : Nat) (μ2 : GM) : Prop := g_lk0 n μ2 ∧ μ2.2.2.2.2 = [] ∧ Cond.methodLink own idx μ2.1 ∈ gw ∧ Cond.instanceMethod μ2.1 ∈ gw ∧ Cond.sameMethod μ2.1.cls μ2.1.cls μ2.1.name μ2.1.desc ∈ gw ∧ Cond.superclass own μ2.1.cls ∈ gw ∧ μ2.1.name ≠ "<init>"
/-- the private ones, out of the tables -/
theorem g_selU {args : Array Value} {s : State} {y : MethodName} (ht : ∀ w ∈ lw_tbl, w.before args s = true) (hc : y.cls = RJ5) (hi : Cond.instanceMethod y ∈ tables_1) (hp : Cond.privateMethod y ∈ tables_1) : (Cond.selects RJ4 y y).before args s = true := by
  have i1 : Cond.instantiable RJ4 4 ∈ tables_1 := by decide +kernel
  have i2 : Cond.selects RJ4 ⟨RJ5, "isLatin1", "()Z"⟩ ⟨RJ5, "isLatin1", "()Z"⟩ ∈ tables_1 := by decide +kernel
  obtain ⟨c, k, hcl, hk, -, -, -, -⟩ := Cond.instantiable_spec (ht _ (List.mem_append_right _ i1))
  obtain ⟨mk, methM, hnamed, hmethM, -, -⟩ := Cond.instanceMethod_spec (ht _ (List.mem_append_right _ hi))
  obtain ⟨c2, r2, m2, q1, q2, q3, q4, kP, hkP, hkPi⟩ := Cond.selects_spec (ht _ (List.mem_append_right _ i2))
  have hfound : s.methodFound? y.cls y.name y.desc = some mk := State.methodFound?_of_named hnamed (by rw [hc]; decide)
  have e1 := findClass_of_methodNamed hnamed
  have e2 := findClass_of_methodNamed q3
  rw [hc] at e1
  have e3 : mk.cls = m2.cls := Option.some.inj (e1.symm.trans e2)
  have hsel : selectMethod {} s.vm c mk = .method mk := selectMethod_private hmethM (Cond.privateMethod_at (ht _ (List.mem_append_right _ hp)) mk methM hnamed hmethM)
  simp only [Cond.before, Cond.holds, Cond.value, hcl, hfound, hnamed, hsel, e3, hkP]
  simp
  exact hkPi
theorem st_gw {args : Array Value} {s : State} (ht : ∀ w ∈ lw_tbl, w.before args s = true) : ∀ w ∈ gw, w.before args s = true := by
  intro w hw
  rcases List.mem_append.mp (List.mem_filter.mp hw).1 with h | h
  · obtain ⟨y, hy, rfl⟩ := List.mem_map.mp h
    have f : ∀ y ∈ sbPr, y.cls = RJ5 ∧ Cond.instanceMethod y ∈ tables_1 ∧ Cond.privateMethod y ∈ tables_1 := by decide +kernel
    obtain ⟨f1, f2, f3⟩ := f y hy
    exact g_selU ht f1 f2 f3
  · exact ht w h
section GUP
variable {E : GE} {l : Launch} {μ : GM} {R : Room} {Φ : List Frame → Array Value → State → State → Prop} {uc us pc : Nat} {ls : List (Nat × Value)} {st rest : List Value} {w w' : GW} {Z : GZ} {mc ms : Nat}
variable {idx n f2 q2 mc2 ms2 : Nat} {μ2 : GM} {as : List Value} {Z2 : GZ}
theorem w_callU {o : Nat} {As : List Value} (hd : decode μ.2.1 pc = .ok (.invokevirtual idx, 3)) (hk : g_lkU μ.1.cls idx n μ2) (hC : g_Ct E l μ2 f2 q2 mc2 ms2 (.ref o :: As) w Z2) (hrv : g_recv E l w o RJ4) (hst : st = As.reverse ++ .ref o :: rest) (hn : As.length = n) (hR8 : (f2 + 1 ≤ R.frames ∧ 8 + (μ2.2.2.1 + 11) + q2 ≤ R.locals) ∧ uc + mc2 ≤ R.cells ∧ us + ms2 ≤ R.slots) (hr8 : (rest.map fun v => v.category).sum ≤ 8)
    (kr : ∀ v w', Z2 (.inr v) w' → g_Wp E l μ R Φ (uc + mc2) (us + ms2) (pc + 3) ls (v.toList ++ rest) w') (kx : ∀ X w', Z2 (.inl X) w' → g_Wx E l μ R Φ (uc + mc2) (us + ms2) pc ls rest w' X) : g_Wp E l μ R Φ uc us pc ls st w := by
  intro p e s m args below meth c H locs lsA C hR hS hl
  obtain ⟨⟨hini, hcd, hds⟩, hh, hml, hins, hsm, hcc, hsel⟩ := hk
  have ht := C.2.2.2.2.1
  have hcd2 : (Cond.code μ2.1 μ2.2.1 μ2.2.2.1 μ2.2.2.2.1) ∈ gw := by unfold g_cd at hcd; rw [if_pos hh] at hcd; exact hcd
  have hcode := ht _ (g_mwgw μ _ hcd2)
  have hi2 := ht _ (g_mwgw μ _ hins)
  refine g_after (rest := rest) (a := ((.ref o :: As : List Value).map (cv E)).toArray) (vx_runU (n := n) (x := μ2.1) (y := μ2.1) (bytes := μ2.2.1) (maxL := μ2.2.2.1) (ret := μ2.2.2.2.1) (C := RJ4) (owner := μ2.1.cls) (b := g_ad E o) (As := As.map (cv E)) (Ts := g_mw μ) ⟨C.1, C.2.1, C.2.2.1, C.2.2.2.1, ht⟩ hC
    ⟨⟨rfl, rfl, hR8.1.1, hR8.1.2, pay_in ht (g_mwin hcd), by rw [g_cd0 hh]; exact List.mem_cons_self⟩, hcode, ht _ (g_mwgw μ _ hini), ⟨hds.1, hds.2.1⟩, fun sig h => ?_, ht _ (g_mwgw μ _ hml), ht _ (g_mwgw μ _ hsm), va_Decl.of hi2 hcode, ht _ (g_mwgw μ _ hsel), hi2⟩
    ⟨g_Pc.blind, hrv s H locs C.2.2.2.2.2.2.2.2.2.1 hR hS, g_pre (as := .ref o :: As) C hR hS⟩ rfl (by rw [List.length_map]; exact hn) hl.1 (by subst hst; show (As.reverse ++ .ref o :: rest).map (cv E) = _; simp [cv]) (g_rm hr8) hd hR8.2) C hS hl kr kx
  have h2 := hds.2.2
  rw [h] at h2
  exact (Option.some.inj h2).symm
theorem w_callP {o : Nat} {As : List Value} (hd : decode μ.2.1 pc = .ok (.invokespecial idx, 3)) (hk : g_lkP μ.1.cls idx n μ2) (hC : g_Ct E l μ2 f2 q2 mc2 ms2 (.ref o :: As) w Z2) (hrv : g_recv E l w o RJ4) (hst : st = As.reverse ++ .ref o :: rest) (hn : As.length = n) (hR8 : (f2 + 1 ≤ R.frames ∧ 8 + (μ2.2.2.1 + 11) + q2 ≤ R.locals) ∧ uc + mc2 ≤ R.cells ∧ us + ms2 ≤ R.slots) (hr8 : (rest.map fun v => v.category).sum ≤ 8)
    (kr : ∀ v w', Z2 (.inr v) w' → g_Wp E l μ R Φ (uc + mc2) (us + ms2) (pc + 3) ls (v.toList ++ rest) w') (kx : ∀ X w', Z2 (.inl X) w' → g_Wx E l μ R Φ (uc + mc2) (us + ms2) pc ls rest w' X) : g_Wp E l μ R Φ uc us pc ls st w := by
  intro p e s m args below meth c H locs lsA C hR hS hl
  obtain ⟨⟨hini, hcd, hds⟩, hh, hml, hins, hsm, hsu, hno⟩ := hk
  have ht := C.2.2.2.2.1
  have hcd2 : (Cond.code μ2.1 μ2.2.1 μ2.2.2.1 μ2.2.2.2.1) ∈ gw := by unfold g_cd at hcd; rw [if_pos hh] at hcd; exact hcd
  refine g_after (rest := rest) (a := ((.ref o :: As : List Value).map (cv E)).toArray) (vx_runSU (n := n) (y := μ2.1) (bytes := μ2.2.1) (maxL := μ2.2.2.1) (ret := μ2.2.2.2.1) (C := RJ4) (cC := E.1.1 7) (b := g_ad E o) (As := As.map (cv E)) (Ts := g_mw μ) (C.2.2.2.2.2.2.2.2.2.1.2.1.1 7 _ (g_clat (by decide))).2 ⟨C.1, C.2.1, C.2.2.1, C.2.2.2.1, ht⟩ hC
    ⟨⟨rfl, rfl, hR8.1.1, hR8.1.2, pay_in ht (g_mwin hcd), by rw [g_cd0 hh]; exact List.mem_cons_self⟩, ht _ (g_mwgw μ _ hml), ht _ (g_mwgw μ _ hsm), ht _ (g_mwgw μ _ hsu), ht _ (g_mwgw μ _ hins), ht _ (g_mwgw μ _ hini), ht _ (g_mwgw μ _ hcd2), hno, fun sig h => ?_⟩
    ⟨g_Pc.blind, hrv s H locs C.2.2.2.2.2.2.2.2.2.1 hR hS, g_pre (as := .ref o :: As) C hR hS⟩ rfl (by rw [List.length_map]; exact hn) hl.1 (by subst hst; show (As.reverse ++ .ref o :: rest).map (cv E) = _; simp [cv]) (g_rm hr8) hd hR8.2) C hS hl kr kx
  have h2 := hds.2.2
  rw [h] at h2
  exact (Option.some.inj h2).symm
end GUP
