/-! ROWS: the StringBuilder and the law's own arrays -/
section SBG
variable {E : GE} {l : Launch} {μ : GM} {R : Room} {Φ : List Frame → Array Value → State → State → Prop} {uc us pc : Nat} {ls : List (Nat × Value)} {st rest : List Value} {w w' : GW} {Z : GZ} {mc ms : Nat}
theorem w_dup_x1 {a b : Value} (hd : decode μ.2.1 pc = .ok (.dup_x1, 1)) (ha : a.category = 1) (hb : b.category = 1) (k : g_Wp E l μ R Φ uc us (pc + 1) ls (a :: b :: a :: st) w) : g_Wp E l μ R Φ uc us pc ls (a :: b :: st) w :=
  fun p e s m args below meth c H locs lsA C hR hS hl => lv_dup_x1 C.1 C.2.1 hd ((cv_cat E a).trans ha) ((cv_cat E b).trans hb) (k p e s m args below meth c H locs lsA C hR hS hl)
theorem w_ineg {x : Int32} (hd : decode μ.2.1 pc = .ok (.ineg, 1)) (k : g_Wp E l μ R Φ uc us (pc + 1) ls (.int (-x) :: st) w) : g_Wp E l μ R Φ uc us pc ls (.int x :: st) w :=
  fun p e s m args below meth c H locs lsA C hR hS hl => lv_ineg C.1 C.2.1 hd (k p e s m args below meth c H locs lsA C hR hS hl)
theorem w_putb {idx o ci k : Nat} {x : Int32} (hd : decode μ.2.1 pc = .ok (.putfield idx, 3)) (ho : (g_ob o).1 = ci) (hc : ci < 8) (hk : k < g_N ci) (hn : o < w.2.2.2.2.1) (hl : Cond.fieldLink μ.1.cls idx (g_D ci) (g_T ci k).2.1 (g_T ci k).2.2.1 ∈ gw)
    (hty : g_ft ci k = .byte) (hfin : (g_T ci k).2.2.2 = false) (hx : narrow .byte (.int x) = .int x ∧ fits .byte (.int x) = true) (kk : g_Wp E l μ R Φ uc us (pc + 3) ls st (up2 w.1 o k x, w.2)) : g_Wp E l μ R Φ uc us pc ls (.int x :: .ref o :: st) w :=
  w_put0 (w' := (up2 w.1 o k x, w.2)) hd ho hc hk hn hl (Or.inl hfin) (by rw [hty]; exact hx.1) (by rw [hty]; exact hx.2) rfl (up_I w o k x) (by rw [hty]; show Value.int (up2 w.1 o k x o k) = _; rw [up2_s]) kk
/-- System.arraycopy of a row of bytes from its start on into an array of the law's -/
theorem w_copyG {idx o1 o2 L2 dq N : Nat} {f : Nat → Int32} {sp dp z : Int32} (hd : decode μ.2.1 pc = .ok (.invokestatic idx, 3)) (hl1 : Cond.methodLink μ.1.cls idx arraycopyName ∈ gw)
    (hsrc : ∀ (s : State) (H : Heap) (locs : List Loc), g_K E l s s.heap → g_Rp E w H → va_S (g_A E) s.heap H locs → ∃ cs : Cell, H[g_ad E o1]? = some cs ∧ s.isArrayOf cs .byte ∧ cs.vm ≠ .unknown ∧ N ≤ cs.slots.size ∧ ∀ j, j < N → cs.slots[j]? = some (.int (f j)))
    (ho2 : g_ob o2 = (15, L2)) (hn2 : o2 < w.2.2.2.2.1) (hlv : g_lv E o2) (hfit : ∀ j, j < N → fits .byte (.int (f j)) = true) (hsp : sp = 0) (hdp : dp = nI dq) (hz : z = nI N) (hpN : dq + N ≤ L2)
    (hRf : 1 ≤ R.frames) (hRl : (st.map fun v => v.category).sum + (nativeFrameWords "java/lang/System" "arraycopy" 5 + 11) ≤ R.locals)
    (k : g_Wp E l μ R Φ uc us (pc + 3) ls st ((fun a b => if a = o2 ∧ dq ≤ b ∧ b < dq + N then f (b - dq) else w.1 a b), w.2)) : g_Wp E l μ R Φ uc us pc ls (.int z :: .int dp :: .ref o2 :: .int sp :: .ref o1 :: st) w := by
  subst hsp; subst hdp; subst hz
  intro p e s m args below meth c H locs lsA C hR hS hl
  have ht := C.2.2.2.2.1
  have hK := C.2.2.2.2.2.2.2.2.2.1
  obtain ⟨cs, hc0, hs2, hs3, hs4, hs5⟩ := hsrc s H locs hK hR hS
  have hc1 := g_arr hR hn2 hlv (by rw [ho2]) (by decide : ¬ 15 < 8)
  rw [ho2] at hc1
  have hL2 : L2 < 2 ^ 31 := by have := g_len o2; rw [ho2] at this; exact this
  have hcl : (nI N).toNatClampNeg = N := nI_clamp (by omega)
  have hti : (nI N).toInt = (N : Int) := nI_toInt (by omega)
  have hpc : (nI dq).toNatClampNeg = dq := nI_clamp (by omega)
  have hpi : (nI dq).toInt = (dq : Int) := nI_toInt (by omega)
  obtain ⟨hs6, k0, hk0, cm0, hkk0⟩ := hs2
  obtain ⟨-, k1, hk1, cm1, hkk1⟩ := (g_arrK hK (by decide : 8 ≤ 15) (by decide : 15 ≤ 17)).1 L2 (fun k => cv E (g_val w (g_et 15) o2 k))
  have hnat : Cond.native arraycopyName ∈ tables_1 := by decide +kernel
  have hsta : Cond.static arraycopyName ∈ tables_1 := by decide +kernel
  have hini : Cond.initialized "java/lang/System" ∈ tables_1 := by decide +kernel
  show W p l e R s m args below meth c H locs uc us (Φ below args s) (F0 m pc lsA (.int (nI N) :: .int (nI dq) :: .ref (g_ad E o2) :: .int 0 :: .ref (g_ad E o1) :: st.map (cv E)))
  intro T hT X
  obtain ⟨vm', X', step⟩ := X.arraycopy C.1 C.2.2.2.1 (ht _ (g_mwgw μ _ hl1)) (ht _ (g_mwgw μ _ (gw_t hnat rfl))) (ht _ (g_mwgw μ _ (gw_t hsta rfl))) (ht _ (g_mwgw μ _ (gw_t hini rfl))) (src := g_ad E o1) (dst := g_ad E o2) (srcPos := 0) (destPos := nI dq) (n := nI N) (by rw [hT]; exact hc0) (by rw [hT]; exact hc1)
    hs6 (fun _ h => by cases h) hs3 (fun h => by cases h) hk0 hk1 hkk0 hkk1 (by rfl) (by decide) (nI_pos (by omega)) (nI_pos (by omega))
    (by rw [hti]; show ¬ (0 : Int) + _ > (cs.slots.size : Int); omega)
    (by rw [hti, hpi]; show ¬ _ > ((arrV _ L2 _).slots.size : Int); rw [arrV_size]; omega)
    (fun vm₁ _ i hi => by
      rw [hcl] at hi
      have e : cs.slots.getD (Int32.toNatClampNeg 0 + i) .null = .int (f i) := by
        rw [Array.getD_eq_getD_getElem?, show Int32.toNatClampNeg 0 + i = i from by simp, hs5 i hi]
        rfl
      refine ⟨?_, ?_⟩
      · rw [e]; exact hfit i hi
      · rw [e]; exact trivial)
    (g := F0 m pc lsA (.int (nI N) :: .int (nI dq) :: .ref (g_ad E o2) :: .int 0 :: .ref (g_ad E o1) :: st.map (cv E))) rfl (by rw [C.2.2.1]; exact hl.1) (rest := st.map (cv E)) rfl (by rw [C.2.1]; exact hd) hRf (by show 2 * 0 + _ + _ ≤ _; rw [g_cats]; omega)
  have e1 : copied cs (arrV (E.2.1 15) L2 (fun k => cv E (g_val w (g_et 15) o2 k))) 0 (nI dq) (nI N) = arrV (E.2.1 15) L2 (fun j => .int (va_cpy f (w.1 o2) 0 dq N j)) := by
    have := va_copiedX (n0 := N) (n1 := L2) (sp := 0) (dp := dq) (n := N) (fun z => Value.int z) cs (E.2.1 15) f (w.1 o2) hs5 (by omega)
    show (arrV (E.2.1 15) L2 (fun k => Value.int (w.1 o2 k))).storeRun (nI dq).toNatClampNeg (cs.stretch (Int32.toNatClampNeg 0) (nI N).toNatClampNeg) = _
    rw [hcl, hpc]
    exact this
  rw [e1] at X' step
  have hlt : g_ad E o2 < H.size := (Array.getElem?_eq_some_iff.mp hc1).1
  have hge2 : E.2.2.1 ≤ g_ad E o2 := hR.ge hn2 hlv
  have oq : ∀ q : Nat, q ≠ g_ad E o2 → (H.setIfInBounds (g_ad E o2) (arrV (E.2.1 15) L2 (fun j => .int (va_cpy f (w.1 o2) 0 dq N j))))[q]? = H[q]? := fun q hq => by simp [Array.getElem?_setIfInBounds, Ne.symm hq]
  have hheap : ((T.setVm vm').setCell (g_ad E o2) (arrV (E.2.1 15) L2 (fun j => .int (va_cpy f (w.1 o2) 0 dq N j)))).heap = H.setIfInBounds (g_ad E o2) (arrV (E.2.1 15) L2 (fun j => .int (va_cpy f (w.1 o2) 0 dq N j))) := by rw [← hT]; rfl
  have hw9 : ∀ (ty : FieldType) (o' k' : Nat), o' ≠ o2 → g_val (((fun a b => if a = o2 ∧ dq ≤ b ∧ b < dq + N then f (b - dq) else w.1 a b), w.2) : GW) ty o' k' = g_val w ty o' k' := by
    intro ty o' k' h
    cases ty <;> simp [g_val, h]
  have hR1 : g_Rp E ((fun a b => if a = o2 ∧ dq ≤ b ∧ b < dq + N then f (b - dq) else w.1 a b), w.2) (H.setIfInBounds (g_ad E o2) (arrV (E.2.1 15) L2 (fun j => .int (va_cpy f (w.1 o2) 0 dq N j)))) := by
    obtain ⟨r1, r2, r3, r4, r5⟩ := hR
    refine ⟨by rw [Array.size_setIfInBounds]; exact r1, by rw [Array.size_setIfInBounds]; exact r2, r3, fun o' ho' hl' => ?_, r5⟩
    obtain ⟨s1, s2, s3⟩ := r4 o' ho' hl'
    refine ⟨s1, by rw [Array.size_setIfInBounds]; exact s2, ?_⟩
    by_cases h : o' = o2
    · subst h
      refine ⟨fun h => absurd h (by rw [ho2]; show ¬ 15 < 8; decide), fun _ => ?_⟩
      rw [Array.getElem?_setIfInBounds_self_of_lt hlt, ho2]
      congr 2
      funext j
      show Value.int (if dq ≤ j ∧ j < dq + N then f (0 + (j - dq)) else w.1 o' j) = .int (if o' = o' ∧ dq ≤ j ∧ j < dq + N then f (j - dq) else w.1 o' j)
      simp
    · have hk := s3.kept (oq (g_ad E o') (fun q => h (r5 _ _ ho' hn2 hl' hlv q)))
      refine ⟨fun h8 => (hk.1 h8).to (fun j _ => ?_), fun h8 => ?_⟩
      · rw [hw9 _ o' j h]
      · rw [hk.2 h8]
        congr 2
        funext j
        rw [hw9 _ o' j h]
  obtain ⟨t, a1, b1⟩ := k p e s m args below meth c _ _ lsA C hR1 ⟨by rw [Array.size_setIfInBounds]; exact hS.1, fun q g1 g2 => by
      rw [oq q (fun e => g2 (by rw [e]; exact hge2))]
      exact hS.2.1 q g1 g2, fun q hq => by
      rcases List.mem_append.mp hq with h | h
      · exact hS.2.2 q h
      · obtain ⟨z, -, hz⟩ := List.mem_map.mp h
        rw [← hz]
        exact hge2⟩ hl _ hheap X'
  exact ⟨t, step t a1, b1⟩
/-- out of an array of the law's -/
theorem src_15 {o1 L1 : Nat} (ho : g_ob o1 = (15, L1)) (hn : o1 < w.2.2.2.2.1) (hlv : g_lv E o1) : ∀ (s : State) (H : Heap) (locs : List Loc), g_K E l s s.heap → g_Rp E w H → va_S (g_A E) s.heap H locs → ∃ cs : Cell, H[g_ad E o1]? = some cs ∧ s.isArrayOf cs .byte ∧ cs.vm ≠ .unknown ∧ L1 ≤ cs.slots.size ∧ ∀ j, j < L1 → cs.slots[j]? = some (.int (w.1 o1 j)) := by
  intro s H locs hK hR hS
  have hc := g_arr hR hn hlv (by rw [ho]) (by decide : ¬ 15 < 8)
  rw [ho] at hc
  exact ⟨_, hc, (g_arrK hK (by decide : 8 ≤ 15) (by decide : 15 ≤ 17)).1 _ _, (fun h => by cases h), by rw [arrV_size]; exact Nat.le_refl _, fun j hj => arrV_read _ _ hj⟩
/-- out of a word -/
theorem src_S {i : Nat} (hi : i < 21) : ∀ (s : State) (H : Heap) (locs : List Loc), g_K E l s s.heap → g_Rp E w H → va_S (g_A E) s.heap H locs → ∃ cs : Cell, H[g_ad E (1101 + i)]? = some cs ∧ s.isArrayOf cs .byte ∧ cs.vm ≠ .unknown ∧ g_wl.getD i 0 ≤ cs.slots.size ∧ ∀ j, j < g_wl.getD i 0 → cs.slots[j]? = some (.int ((g_wb.getD i []).getD j 0)) := by
  intro s H locs hK hR hS
  obtain ⟨cell, h1, h2, h3, h4, h5, h6, h7⟩ := (hK.2.2.2.2.2.2.1.1 i hi).2.2.2
  rw [g_adV]
  exact ⟨cell, by rw [hS.2.1 _ (Array.getElem?_eq_some_iff.mp h1).1 h7]; exact h1, h2, h3, h4, h6⟩
/-- the rows of digits -/
theorem w_getsO {idx : Nat} (hd : decode μ.2.1 pc = .ok (.getstatic idx, 3)) (hl9 : Cond.fieldLink μ.1.cls idx "java/lang/Integer" "DigitOnes" "[B" ∈ gw) (k : g_Wp E l μ R Φ uc us (pc + 3) ls (.ref 1201 :: st) w) : g_Wp E l μ R Φ uc us pc ls st w := by
  intro p e s m args below meth c H locs lsA C hR hS hl
  have h := C.2.2.2.2.2.2.2.2.2.1.2.2.2.2.2.2.2.2.2.2.1.2.2.1.1
  exact va_gets C.1 C.2.1 h hS C.2.2.2.1 (C.2.2.2.2.1 _ (g_mwgw μ _ hl9)) (fun _ h => h) hd (k p e s m args below meth c H locs lsA C hR hS hl)
theorem w_getsT {idx : Nat} (hd : decode μ.2.1 pc = .ok (.getstatic idx, 3)) (hl9 : Cond.fieldLink μ.1.cls idx "java/lang/Integer" "DigitTens" "[B" ∈ gw) (k : g_Wp E l μ R Φ uc us (pc + 3) ls (.ref 1202 :: st) w) : g_Wp E l μ R Φ uc us pc ls st w := by
  intro p e s m args below meth c H locs lsA C hR hS hl
  have h := C.2.2.2.2.2.2.2.2.2.1.2.2.2.2.2.2.2.2.2.2.1.2.2.2.1
  exact va_gets C.1 C.2.1 h hS C.2.2.2.1 (C.2.2.2.2.1 _ (g_mwgw μ _ hl9)) (fun _ h => h) hd (k p e s m args below meth c H locs lsA C hR hS hl)
theorem w_baldD {t j : Nat} {f : Nat → Int32} {x : Int32} (hd : decode μ.2.1 pc = .ok (.baload, 1)) (ht : ∀ s : State, g_K E l s s.heap → va_T .byte (E.2.2.2.1.1 t) 100 (fun j => .int (f j)) (g_A E) s s.heap) (ht2 : t < 2000) (hx : x = nI j) (hj : j < 100) (k : g_Wp E l μ R Φ uc us (pc + 1) ls (.int (f j) :: st) w) : g_Wp E l μ R Φ uc us pc ls (.int x :: .ref (1000 + t) :: st) w := by
  subst hx
  intro p e s m args below meth c H locs lsA C hR hS hl
  obtain ⟨cell, h1, h2, h3, h4, h5, h6, h7⟩ := ht s C.2.2.2.2.2.2.2.2.2.1
  have hk := k p e s m args below meth c H locs lsA C hR hS hl
  have ead : g_ad E (1000 + t) = E.2.2.2.1.1 t := by unfold g_ad; rw [if_neg (by omega), Nat.add_sub_cancel_left]
  show W p l e R s m args below meth c H locs uc us (Φ below args s) (F0 m pc lsA (.int (nI j) :: .ref (g_ad E (1000 + t)) :: st.map (cv E)))
  rw [ead]
  have hjj : (nI j).toNatClampNeg = j := nI_clamp (by omega)
  have h1' : H[E.2.2.2.1.1 t]? = some cell := by rw [hS.2.1 _ (Array.getElem?_eq_some_iff.mp h1).1 h7]; exact h1
  refine W.bald (v := .int (f j)) C.1 C.2.1 h1' h2 h3 ?_ ?_ rfl rfl hd hk
  · rw [hjj]
    intro h
    rcases h with h | h
    · exact absurd h (nI_pos (by omega))
    · omega
  · rw [hjj]
    exact h6 j hj
theorem dg_O {s : State} (hK : g_K E l s s.heap) : va_T .byte (E.2.2.2.1.1 201) 100 (fun j => .int (g_dgO j)) (g_A E) s s.heap := hK.2.2.2.2.2.2.2.2.2.2.1.2.2.1.2
theorem dg_T {s : State} (hK : g_K E l s s.heap) : va_T .byte (E.2.2.2.1.1 202) 100 (fun j => .int (g_dgT j)) (g_A E) s s.heap := hK.2.2.2.2.2.2.2.2.2.2.1.2.2.2.2
end SBG
section SBX
variable {E : GE} {l : Launch} {μ : GM} {Rm : Room} {Φ : List Frame → Array Value → State → State → Prop} {uc us pc : Nat} {ls : List (Nat × Value)} {st rest : List Value} {Z : GZ} {mc ms : Nat}
variable {I : Nat → Nat → Int32} {J : Nat → Nat → Int64} {R : Nat → Nat → Option Nat} {D : Nat → Nat → UInt64} {n : Nat} {ex : Bool}
theorem x_getb {idx o ci k : Nat} (hd : decode μ.2.1 pc = .ok (.getfield idx, 3)) (ho : (g_ob o).1 = ci) (hc : ci < 8) (hk : k < g_N ci) (hn : o < n) (hl : Cond.fieldLink μ.1.cls idx (g_D ci) (g_T ci k).2.1 (g_T ci k).2.2.1 ∈ gw)
    (hty : g_ft ci k = .byte) (kk : g_Wp E l μ Rm Φ uc us (pc + 3) ls (.int (I o k) :: st) (I, J, R, D, n, ex)) : g_Wp E l μ Rm Φ uc us pc ls (.ref o :: st) (I, J, R, D, n, ex) := w_get hd ho hc hk hn hl (by rw [hty]; rfl) kk
theorem x_putb {idx o ci k : Nat} {x : Int32} (hd : decode μ.2.1 pc = .ok (.putfield idx, 3)) (ho : (g_ob o).1 = ci) (hc : ci < 8) (hk : k < g_N ci) (hn : o < n) (hl : Cond.fieldLink μ.1.cls idx (g_D ci) (g_T ci k).2.1 (g_T ci k).2.2.1 ∈ gw)
    (hty : g_ft ci k = .byte) (hfin : (g_T ci k).2.2.2 = false) (hx : narrow .byte (.int x) = .int x ∧ fits .byte (.int x) = true) (kk : g_Wp E l μ Rm Φ uc us (pc + 3) ls st (up2 I o k x, J, R, D, n, ex)) : g_Wp E l μ Rm Φ uc us pc ls (.int x :: .ref o :: st) (I, J, R, D, n, ex) := w_putb hd ho hc hk hn hl hty hfin hx kk
theorem x_bald15 {o j : Nat} {i : Int32} (hd : decode μ.2.1 pc = .ok (.baload, 1)) (ho : (g_ob o).1 = 15) (hn : o < n) (hlv : g_lv E o) (hi : i = nI j) (hj : j < (g_ob o).2) (k : g_Wp E l μ Rm Φ uc us (pc + 1) ls (.int (I o j) :: st) (I, J, R, D, n, ex)) : g_Wp E l μ Rm Φ uc us pc ls (.int i :: .ref o :: st) (I, J, R, D, n, ex) := w_bald15 hd ho hn hlv hi hj k
theorem x_bast15 {o j : Nat} {i x : Int32} (hd : decode μ.2.1 pc = .ok (.bastore, 1)) (ho : (g_ob o).1 = 15) (hn : o < n) (hlv : g_lv E o) (hi : i = nI j) (hj : j < (g_ob o).2) (k : g_Wp E l μ Rm Φ uc us (pc + 1) ls st (up2 I o j x.toInt8.toInt32, J, R, D, n, ex)) : g_Wp E l μ Rm Φ uc us pc ls (.int x :: .int i :: .ref o :: st) (I, J, R, D, n, ex) := w_bast15 hd ho hn hlv hi hj k
theorem x_iald16 {o j : Nat} {i : Int32} (hd : decode μ.2.1 pc = .ok (.iaload, 1)) (ho : (g_ob o).1 = 16) (hn : o < n) (hlv : g_lv E o) (hi : i = nI j) (hj : j < (g_ob o).2) (k : g_Wp E l μ Rm Φ uc us (pc + 1) ls (.int (I o j) :: st) (I, J, R, D, n, ex)) : g_Wp E l μ Rm Φ uc us pc ls (.int i :: .ref o :: st) (I, J, R, D, n, ex) := w_iald16 hd ho hn hlv hi hj k
theorem x_iast16 {o j : Nat} {i x : Int32} (hd : decode μ.2.1 pc = .ok (.iastore, 1)) (ho : (g_ob o).1 = 16) (hn : o < n) (hlv : g_lv E o) (hi : i = nI j) (hj : j < (g_ob o).2) (k : g_Wp E l μ Rm Φ uc us (pc + 1) ls st (up2 I o j x, J, R, D, n, ex)) : g_Wp E l μ Rm Φ uc us pc ls (.int x :: .int i :: .ref o :: st) (I, J, R, D, n, ex) := w_iast16 hd ho hn hlv hi hj k
theorem x_zald17 {o j : Nat} {i : Int32} (hd : decode μ.2.1 pc = .ok (.baload, 1)) (ho : (g_ob o).1 = 17) (hn : o < n) (hlv : g_lv E o) (hi : i = nI j) (hj : j < (g_ob o).2) (k : g_Wp E l μ Rm Φ uc us (pc + 1) ls (.int (I o j) :: st) (I, J, R, D, n, ex)) : g_Wp E l μ Rm Φ uc us pc ls (.int i :: .ref o :: st) (I, J, R, D, n, ex) := w_zald17 hd ho hn hlv hi hj k
theorem x_zast17 {o j : Nat} {i x : Int32} (hd : decode μ.2.1 pc = .ok (.bastore, 1)) (ho : (g_ob o).1 = 17) (hn : o < n) (hlv : g_lv E o) (hi : i = nI j) (hj : j < (g_ob o).2) (hx : x = 0 ∨ x = 1) (k : g_Wp E l μ Rm Φ uc us (pc + 1) ls st (up2 I o j x, J, R, D, n, ex)) : g_Wp E l μ Rm Φ uc us pc ls (.int x :: .int i :: .ref o :: st) (I, J, R, D, n, ex) := w_zast17 hd ho hn hlv hi hj hx k
theorem x_alenL {o c L : Nat} (hd : decode μ.2.1 pc = .ok (.arraylength, 1)) (ho : g_ob o = (c, L)) (hc : 8 ≤ c) (hc2 : c ≤ 17) (hn : o < n) (hlv : g_lv E o) (k : g_Wp E l μ Rm Φ uc us (pc + 1) ls (.int (nI L) :: st) (I, J, R, D, n, ex)) : g_Wp E l μ Rm Φ uc us pc ls (.ref o :: st) (I, J, R, D, n, ex) := w_alen hd ho hc hc2 hn hlv k
theorem x_newarrL {c L : Nat} {i : Int32} {at9 : ArrayType} (hd : decode μ.2.1 pc = .ok (.newarray at9, 2)) (hn : n < 1000) (ho : g_ob n = (c, L)) (hc : 15 ≤ c) (hc2 : c ≤ 17) (hty : newarray.typeOf at9 = g_et c) (hl1 : Cond.arrayClass (g_et c) ∈ gw) (hi : i = nI L)
    (hz : g_zf I J R D n) (hRc : uc + 1 ≤ Rm.cells) (hRs : us + L ≤ Rm.slots) (k : g_Wp E l μ Rm Φ (uc + 1) (us + L) (pc + 2) ls (.ref n :: st) (I, J, R, D, n + 1, true)) : g_Wp E l μ Rm Φ uc us pc ls (.int i :: st) (I, J, R, D, n, true) :=
  w_newarr hd rfl rfl hn ho (by omega) (by omega) hty hl1 hi (fun j _ => hz.val (by rcases (show c = 15 ∨ c = 16 ∨ c = 17 by omega) with rfl | rfl | rfl <;> rfl) j) hRc hRs k
theorem x_copyG {idx o1 o2 L2 dq N : Nat} {f : Nat → Int32} {sp dp z : Int32} (hd : decode μ.2.1 pc = .ok (.invokestatic idx, 3)) (hl1 : Cond.methodLink μ.1.cls idx arraycopyName ∈ gw)
    (hsrc : ∀ (s : State) (H : Heap) (locs : List Loc), g_K E l s s.heap → g_Rp E (I, J, R, D, n, ex) H → va_S (g_A E) s.heap H locs → ∃ cs : Cell, H[g_ad E o1]? = some cs ∧ s.isArrayOf cs .byte ∧ cs.vm ≠ .unknown ∧ N ≤ cs.slots.size ∧ ∀ j, j < N → cs.slots[j]? = some (.int (f j)))
    (ho2 : g_ob o2 = (15, L2)) (hn2 : o2 < n) (hlv : g_lv E o2) (hfit : ∀ j, j < N → fits .byte (.int (f j)) = true) (hsp : sp = 0) (hdp : dp = nI dq) (hz : z = nI N) (hpN : dq + N ≤ L2)
    (hRf : 1 ≤ Rm.frames) (hRl : (st.map fun v => v.category).sum + (nativeFrameWords "java/lang/System" "arraycopy" 5 + 11) ≤ Rm.locals)
    (k : g_Wp E l μ Rm Φ uc us (pc + 3) ls st ((fun a b => if a = o2 ∧ dq ≤ b ∧ b < dq + N then f (b - dq) else I a b), J, R, D, n, ex)) : g_Wp E l μ Rm Φ uc us pc ls (.int z :: .int dp :: .ref o2 :: .int sp :: .ref o1 :: st) (I, J, R, D, n, ex) := w_copyG hd hl1 hsrc ho2 hn2 hlv hfit hsp hdp hz hpN hRf hRl k
end SBX
