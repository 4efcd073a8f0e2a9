/-! ROWS: a throw by a wide constant; HeapGames: what is told of rules -/
section GMOW
variable {E : GE} {l : Launch} {μ : GM} {R : Room} {Φ : List Frame → Array Value → State → State → Prop} {uc us pc : Nat} {ls : List (Nat × Value)} {st rest : List Value} {w w' : GW} {Z : GZ} {mc ms : Nat}
theorem w_throwW {X : String} {ik is ic : Nat} {tx : String} (hμ : μ.1.cls = RX6) (hh : μ.2.2.2.2 = []) (hq : (X, ik, ic) ∈ g_exc) (hs : (RX6, is, tx, 99) ∈ g_strs)
    (d0 : decode μ.2.1 pc = .ok (.new ik, 3)) (d3 : decode μ.2.1 (pc + 3) = .ok (.dup, 1)) (d4 : decode μ.2.1 (pc + 4) = .ok (.ldc_w is, 3)) (d6 : decode μ.2.1 (pc + 7) = .ok (.invokespecial ic, 3)) (d9 : decode μ.2.1 (pc + 10) = .ok (.athrow, 1))
    (hRf : 5 < R.frames) (hRl : (st.map fun v => v.category).sum + 82 ≤ R.locals) (hRc : uc + 1 ≤ R.cells) (hRs : us + 6 ≤ R.slots) (hc : uc + 1 ≤ mc) (hs6 : us + 6 ≤ ms) (hz : Z (.inl X) (w.1, w.2.1, w.2.2.1, w.2.2.2.1, w.2.2.2.2.1, false)) :
    g_Wp E l μ R (g_Fin E Z mc ms) uc us pc ls st w := by
  intro p e s m args below meth c H locs lsA C hR hS hl
  have hK := C.2.2.2.2.2.2.2.2.2.1
  have ht := C.2.2.2.2.1
  obtain ⟨sa, hsa, -⟩ := hK.2.2.2.2.2.1 _ hs
  have hown : s.vm.findClass RX6 = some m.cls := by rw [← hμ]; exact C.2.2.2.1
  have hX : Bundle.fit X = true ∧ X ∈ g_exc.map (fun q => q.1) := by
    have : ∀ q ∈ g_exc, Bundle.fit q.1 = true := by decide +kernel
    exact ⟨this _ hq, List.mem_map.mpr ⟨_, hq, rfl⟩⟩
  have hat : ∀ w ∈ vx_atS RX6 ic X g_sup, w.before args s = true := by
    refine vx_hat (B := Cond.castable X X :: g_decl.map Cond.declares) (fun w hw => ?_) (fun w hw => ?_) (fun w hw => ?_)
    · have h1 := List.all_eq_true.mp (g_excG _ hq) w hw
      exact ht _ (g_mwgw μ _ (gw_t (of_decide_eq_true h1) (List.mem_filter.mp hw).2))
    · exact of_decide_eq_true (List.all_eq_true.mp (g_excB _ hq) w hw)
    · rcases List.mem_cons.mp hw with rfl | hw
      · exact va_Nw.use rfl (g_cast hK hq)
      · obtain ⟨x, hx, rfl⟩ := List.mem_map.mp hw
        exact va_Nw.use rfl (hK.2.2.2.2.2.2.2.2.2.2.2 x hx)
  have hgood : ∀ w ∈ Cond.classLink RX6 ik X :: Cond.initialized X :: vx_atS RX6 ic X g_sup, vx_ot w = true := fun w hw => List.all_eq_true.mp (g_excO _ hq) w hw
  refine vx_throwSW (names := g_sup) (sa := sa) C.1 C.2.1 hK.1 hown hX.1 (by decide +kernel) (ht _ (g_mwgw μ _ (gw_t (g_excL _ hq).1 rfl))) (ht _ (g_mwgw μ _ (gw_t (g_excL _ hq).2 rfl))) hsa hat hgood hK.2.2.2.2.1.1 hK.2.2.2.2.1.2 hS (hl.1.trans C.2.2.1.symm) d0 d3 d4 d6 d9 ?_ hRf (by rw [g_cats]; exact hRl) hRc hRs C.2.2.2.2.2.2.1 ?_ hS.2.2 hc hs6
  · rw [C.2.2.2.2.2.2.2.1, hh]
    intro x hx
    cases hx
  · intro t ht hz1 hk1
    refine ⟨_, hz, ⟨Nat.le_trans hR.1 hz1, (fun h => by cases h), hR.2.2.1, fun o ho hlo => ?_, hR.2.2.2.2⟩, Nat.le_trans hS.1 hz1, fun q h1 h2 => ?_⟩
    · have ho' : o < w.2.2.2.2.1 := ho
      obtain ⟨s1, s2, s3⟩ := hR.2.2.2.1 o ho' hlo
      exact ⟨s1, Nat.lt_of_lt_of_le s2 hz1, s3.kept (hk1 _ s2)⟩
    · rw [hk1 q (Nat.lt_of_lt_of_le h1 hS.1)]
      exact hS.2.1 q h1 h2
end GMOW
theorem downL_cong {p q : Nat → Bool} : ∀ {n : Nat}, (∀ i, i < n → p i = q i) → downL p n = downL q n
  | 0, _ => rfl
  | n + 1, h => by rw [downL, downL, h n (by omega), downL_cong (n := n) (fun i hi => h i (by omega))]
theorem stOf_cong {f g : Nat → Int32} {s last : Nat} (h : ∀ i, i ≤ last → f i = g i) (hs : s ≤ last + 1) : stOf f s last = stOf g s last := by
  unfold stOf
  exact downL_cong (fun i hi => by rw [h i (by omega), h (i + s) (by omega)])
theorem perF_cong {p q : Nat → Bool} : ∀ {f s : Nat}, (∀ i, s ≤ i → i < s + f → p i = q i) → perF p f s = perF q f s
  | 0, _, _ => rfl
  | f + 1, s, h => by rw [perF, perF, h s (Nat.le_refl _) (by omega), perF_cong (f := f) (s := s + 1) (fun i h1 h2 => h i (by omega) (by omega))]
theorem perOf_cong {f g : Nat → Int32} {last : Nat} (h : ∀ i, i ≤ last → f i = g i) : perOf f last = perOf g last := by
  unfold perOf
  exact perF_cong (fun i h1 h2 => by rw [stOf_cong h (by omega)])
theorem perF_some {p : Nat → Bool} : ∀ {f s t : Nat}, perF p f s = some t → s ≤ t ∧ t < s + f ∧ p t = true
  | 0, _, _, h => by simp [perF] at h
  | f + 1, s, t, h => by
    rw [perF] at h
    split at h
    · cases h
      exact ⟨Nat.le_refl _, by omega, by assumption⟩
    · have := perF_some (f := f) (s := s + 1) h
      exact ⟨by omega, by omega, this.2.2⟩
theorem perOf_some {f : Nat → Int32} {last t : Nat} (h : perOf f last = some t) : 1 ≤ t ∧ 2 * t ≤ last + 1 := by
  have := perF_some h
  exact ⟨this.1, by omega⟩
theorem o2i_none {o : Option Nat} (h : o2i o = -1) (hb : ∀ t, o = some t → t < 2 ^ 31) : o = none := by
  cases o with
  | none => rfl
  | some t =>
    have h1 : nI t = -1 := h
    have := congrArg Int32.toInt h1
    rw [nI_toInt (hb t rfl)] at this
    have e : (-1 : Int32).toInt = -1 := rfl
    rw [e] at this
    omega
theorem o2i_some {o : Option Nat} (h : ¬ o2i o = -1) : ∃ t, o = some t := by
  cases o with
  | none => exact absurd rfl h
  | some t => exact ⟨t, rfl⟩
def vS (ru : Ru) (k : Nat) (i : Nat) : Int32 := nI (gv (ru.1 k) (ru.2.1 k) i)
/-- the heap that has the value, as many before it as left tells -/
def hwS (f : Nat → Int32) (v : Int32) : Nat → Nat → Int32 → Int32
  | 0, _, _ => -1
  | g + 1, n, left => if left < 0 then -1 else if f n = v then (if left = 0 then nI n else hwS f v g (n + 1) (left - 1)) else hwS f v g (n + 1) left
def mxR (f : Nat → Nat) : Nat → Nat
  | 0 => 0
  | n + 1 => max (mxR f n) (f n)
theorem mxR_le {f : Nat → Nat} {b : Nat} (h : ∀ i, f i ≤ b) : ∀ n, mxR f n ≤ b
  | 0 => Nat.zero_le _
  | n + 1 => by rw [mxR]; have := mxR_le h n; have := h n; omega
def prS (ru : Ru) (k m : Nat) : Bool := match perOf (vS ru k) m with
  | none => false
  | some t => decide (ru.1 k = 0) && decide (grS (ru.2.1 k) 60 ≤ m - t - stOf (vS ru k) t m + 1)
def stS (ru : Ru) (k m : Nat) : Int32 := match perOf (vS ru k) m with
  | none => -1
  | some t => nI (stOf (vS ru k) t m)
section FB
variable (E : GE) (l : Launch)
variable {I : Nat → Nat → Int32} {J : Nat → Nat → Int64} {R : Nat → Nat → Option Nat} {D : Nat → Nat → UInt64} {N : Nat} {ex : Bool} {sw : Bool} {A : AS} {n : Nat}
end FB
