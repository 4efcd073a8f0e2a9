/-! ROWS: throws, catches, new things, the script, the words -/
theorem gw_t {w : Cond} (h : w ∈ tables_1) (g : goodWord w = true) : w ∈ gw := gw_in (List.mem_append_right _ h) g
/-- the three classes that are thrown, each by its constructor's place in HeapGames -/
def g_exc : List (String × Nat × Nat) := [("java/lang/IllegalArgumentException", 56, 60), ("java/lang/IndexOutOfBoundsException", 161, 165), ("java/lang/IllegalStateException", 254, 258)]
def g_sup : List String := ["java/lang/RuntimeException", "java/lang/Exception"]
theorem g_excG : ∀ q ∈ g_exc, ((vx_atS RX6 q.2.2 q.1 g_sup).filter goodWord).all (fun w => decide (w ∈ tables_1)) = true := by decide +kernel
theorem g_excB : ∀ q ∈ g_exc, ((vx_atS RX6 q.2.2 q.1 g_sup).filter (fun w => !goodWord w)).all (fun w => decide (w ∈ Cond.castable q.1 q.1 :: g_decl.map Cond.declares)) = true := by decide +kernel
theorem g_excL : ∀ q ∈ g_exc, Cond.classLink RX6 q.2.1 q.1 ∈ tables_1 ∧ Cond.initialized q.1 ∈ tables_1 := by decide +kernel
theorem g_excO : ∀ q ∈ g_exc, (Cond.classLink RX6 q.2.1 q.1 :: Cond.initialized q.1 :: vx_atS RX6 q.2.2 q.1 g_sup).all vx_ot = true := by decide +kernel
section GMO
variable {E : GE} {l : Launch} {μ : GM} {R : Room} {Φ : List Frame → Array Value → State → State → Prop} {uc us pc : Nat} {ls : List (Nat × Value)} {st rest : List Value} {w w' : GW} {Z : GZ} {mc ms : Nat}
theorem g_cast {X : String} {s : State} {H : Heap} (hK : g_K E l s H) {a b : Nat} (hq : (X, a, b) ∈ g_exc) : va_Nw (.castable X X) s := by
  obtain ⟨h1, h2, h3⟩ := hK.2.2.2.2.2.2.2.2.1
  rcases List.mem_cons.mp hq with h | hq
  · cases h; exact h1
  · rcases List.mem_cons.mp hq with h | hq
    · cases h; exact h2
    · rcases List.mem_cons.mp hq with h | hq
      · cases h; exact h3
      · cases hq
/-- throw new X("..") in HeapGames -/
theorem w_throw {X : String} {ik is ic : Nat} {tx : String} (hμ : μ.1.cls = RX6) (hh : μ.2.2.2.2 = []) (hq : (X, ik, ic) ∈ g_exc) (hs : (RX6, is, tx, 99) ∈ g_strs)
    (d0 : decode μ.2.1 pc = .ok (.new ik, 3)) (d3 : decode μ.2.1 (pc + 3) = .ok (.dup, 1)) (d4 : decode μ.2.1 (pc + 4) = .ok (.ldc is, 2)) (d6 : decode μ.2.1 (pc + 6) = .ok (.invokespecial ic, 3)) (d9 : decode μ.2.1 (pc + 9) = .ok (.athrow, 1))
    (hRf : 5 < R.frames) (hRl : (st.map fun v => v.category).sum + 82 ≤ R.locals) (hRc : uc + 1 ≤ R.cells) (hRs : us + 6 ≤ R.slots) (hc : uc + 1 ≤ mc) (hs6 : us + 6 ≤ ms) (hz : Z (.inl X) (w.1, w.2.1, w.2.2.1, w.2.2.2.1, w.2.2.2.2.1, false)) :
    g_Wp E l μ R (g_Fin E Z mc ms) uc us pc ls st w := by
  intro p e s m args below meth c H locs lsA C hR hS hl
  have hK := C.2.2.2.2.2.2.2.2.2.1
  have ht := C.2.2.2.2.1
  obtain ⟨sa, hsa, -⟩ := hK.2.2.2.2.2.1 _ hs
  have hown : s.vm.findClass RX6 = some m.cls := by rw [← hμ]; exact C.2.2.2.1
  have hX : Bundle.fit X = true ∧ X ∈ g_exc.map (fun q => q.1) := by
    have : ∀ q ∈ g_exc, Bundle.fit q.1 = true := by decide +kernel
    exact ⟨this _ hq, List.mem_map.mpr ⟨_, hq, rfl⟩⟩
  have hat : ∀ w ∈ vx_atS RX6 ic X g_sup, w.before args s = true := by
    refine vx_hat (B := Cond.castable X X :: g_decl.map Cond.declares) (fun w hw => ?_) (fun w hw => ?_) (fun w hw => ?_)
    · have h1 := List.all_eq_true.mp (g_excG _ hq) w hw
      exact ht _ (g_mwgw μ _ (gw_t (of_decide_eq_true h1) (List.mem_filter.mp hw).2))
    · exact of_decide_eq_true (List.all_eq_true.mp (g_excB _ hq) w hw)
    · rcases List.mem_cons.mp hw with rfl | hw
      · exact va_Nw.use rfl (g_cast hK hq)
      · obtain ⟨x, hx, rfl⟩ := List.mem_map.mp hw
        exact va_Nw.use rfl (hK.2.2.2.2.2.2.2.2.2.2.2 x hx)
  have hgood : ∀ w ∈ Cond.classLink RX6 ik X :: Cond.initialized X :: vx_atS RX6 ic X g_sup, vx_ot w = true := fun w hw => List.all_eq_true.mp (g_excO _ hq) w hw
  refine vx_throwS (names := g_sup) (sa := sa) C.1 C.2.1 hK.1 hown hX.1 (by decide +kernel) (ht _ (g_mwgw μ _ (gw_t (g_excL _ hq).1 rfl))) (ht _ (g_mwgw μ _ (gw_t (g_excL _ hq).2 rfl))) hsa hat hgood hK.2.2.2.2.1.1 hK.2.2.2.2.1.2 hS (hl.1.trans C.2.2.1.symm) d0 d3 d4 d6 d9 ?_ hRf (by rw [g_cats]; exact hRl) hRc hRs C.2.2.2.2.2.2.1 ?_ hS.2.2 hc hs6
  · rw [C.2.2.2.2.2.2.2.1, hh]
    intro x hx
    cases hx
  · intro t ht hz1 hk1
    refine ⟨_, hz, ⟨Nat.le_trans hR.1 hz1, (fun h => by cases h), hR.2.2.1, fun o ho hlo => ?_, hR.2.2.2.2⟩, Nat.le_trans hS.1 hz1, fun q h1 h2 => ?_⟩
    · have ho' : o < w.2.2.2.2.1 := ho
      obtain ⟨s1, s2, s3⟩ := hR.2.2.2.1 o ho' hlo
      exact ⟨s1, Nat.lt_of_lt_of_le s2 hz1, s3.kept (hk1 _ s2)⟩
    · rw [hk1 q (Nat.lt_of_lt_of_le h1 hS.1)]
      exact hS.2.1 q h1 h2
/-- caught here: past the rows that name other classes -/
theorem w_catch {X : String} {a b : Nat} (hq : (X, a, b) ∈ g_exc) (pre : List (Nat × Nat × Nat × Nat)) (x : Nat × Nat × Nat × Nat) (suf : List (Nat × Nat × Nat × Nat)) (hsp : μ.2.2.2.2 = pre ++ x :: suf)
    (hpass : ∀ z ∈ pre, z.2.2.2 ≠ 0 ∧ ∃ nm : String, Cond.classLink μ.1.cls z.2.2.2 nm ∈ gw ∧ ∀ s H, g_K E l s H → va_Nc X nm s) (hx : x.1 ≤ pc ∧ pc < x.2.1) (h0 : x.2.2.2 ≠ 0) (hlk : Cond.classLink μ.1.cls x.2.2.2 X ∈ gw)
    (kk : ∀ q : Nat, g_Wp E l μ R Φ uc us x.2.2.1 ls [.retAddr q] w) : g_Wx E l μ R Φ uc us pc ls st w X := by
  intro p e s m args below meth c H locs lsA q ce C hR hS hl h1 h2 h3
  have hK := C.2.2.2.2.2.2.2.2.2.1
  have ht := C.2.2.2.2.1
  refine vx_catch (own := μ.1.cls) (name := X) C.2.2.2.1 (pre.map fun q => ⟨q.1, q.2.1, q.2.2.1, q.2.2.2⟩) ⟨x.1, x.2.1, x.2.2.1, x.2.2.2⟩ (suf.map fun q => ⟨q.1, q.2.1, q.2.2.1, q.2.2.2⟩) (by rw [C.2.2.2.2.2.2.2.1, hsp]; show List.map _ _ = _; simp) (fun z hz => ?_) ?_ h0 (ht _ (g_mwgw μ _ hlk)) (va_Nw.use rfl (g_cast hK hq)) h1 h2 h3 (kk q p e s m args below meth c H locs lsA C hR hS hl)
  · obtain ⟨z', hz', rfl⟩ := List.mem_map.mp hz
    obtain ⟨g1, nm, g2, g3⟩ := hpass z' hz'
    exact Or.inr ⟨g1, nm, ht _ (g_mwgw μ _ g2), g3 s s.heap hK⟩
  · simp [covers, hx.1, hx.2]
end GMO
