/-! ROWS: a throw by a wide constant; HeapGames: what is told of rules -/
section GMOW
variable {E : GE} {l : Launch} {μ : GM} {R : Room} {Φ : List Frame → Array Value → State → State → Prop} {uc us pc : Nat} {ls : List (Nat × Value)} {st rest : List Value} {w w' : GW} {Z : GZ} {mc ms : Nat}
theorem w_throwW {X : String} {ik is ic : Nat} {tx : String} (hμ : μ.1.cls = RX6) (hh : μ.2.2.2.2 = []) (hq : (X, ik, ic) ∈ g_exc) (hs : (RX6, is, tx, 99) ∈ g_strs)
    (d0 : decode μ.2.1 pc = .ok (.new ik, 3)) (d3 : decode μ.2.1 (pc + 3) = .ok (.dup, 1)) (d4 : decode μ.2.1 (pc + 4) = .ok (.ldc_w is, 3)) (d6 : decode μ.2.1 (pc + 7) = .ok (.invokespecial ic, 3)) (d9 : decode μ.2.1 (pc + 10) = .ok (.athrow, 1))
    (hRf : 5 < R.frames) (hRl : (st.map fun v => v.category).sum + 82 ≤ R.locals) (hRc : uc + 1 ≤ R.cells) (hRs : us + 6 ≤ R.slots) (hc : uc + 1 ≤ mc) (hs6 : us + 6 ≤ ms) (hz : Z (.inl X) (w.1, w.2.1, w.2.2.1, w.2.2.2.1, w.2.2.2.2.1, false)) :
    g_Wp E l μ R (g_Fin E Z mc ms) uc us pc ls st w := by
  intro p e s m args below meth c H locs lsA C hR hS hl
  have hK := C.2.2.2.2.2.2.2.2.2.1
  have ht := C.2.2.2.2.1
  obtain ⟨sa, hsa, -⟩ := hK.2.2.2.2.2.1 _ hs
  have hown : s.vm.findClass RX6 = some m.cls := by rw [← hμ]; exact C.2.2.2.1
  have hX : Bundle.fit X = true ∧ X ∈ g_exc.map (fun q => q.1) := by
    have : ∀ q ∈ g_exc, Bundle.fit q.1 = true := by decide +kernel
    exact ⟨this _ hq, List.mem_map.mpr ⟨_, hq, rfl⟩⟩
  have hat : ∀ w ∈ vx_atS RX6 ic X g_sup, w.before args s = true := by
    refine vx_hat (B := Cond.castable X X :: g_decl.map Cond.declares) (fun w hw => ?_) (fun w hw => ?_) (fun w hw => ?_)
    · have h1 := List.all_eq_true.mp (g_excG _ hq) w hw
      exact ht _ (g_mwgw μ _ (gw_t (of_decide_eq_true h1) (List.mem_filter.mp hw).2))
    · exact of_decide_eq_true (List.all_eq_true.mp (g_excB _ hq) w hw)
    · rcases List.mem_cons.mp hw with rfl | hw
      · exact va_Nw.use rfl (g_cast hK hq)
      · obtain ⟨x, hx, rfl⟩ := List.mem_map.mp hw
        exact va_Nw.use rfl (hK.2.2.2.2.2.2.2.2.2.2.2 x hx)
  have hgood : ∀ w ∈ Cond.classLink RX6 ik X :: Cond.initialized X :: vx_atS RX6 ic X g_sup, vx_ot w = true := fun w hw => List.all_eq_true.mp (g_excO _ hq) w hw
  refine vx_throwSW (names := g_sup) (sa := sa) C.1 C.2.1 hK.1 hown hX.1 (by decide +kernel) (ht _ (g_mwgw μ _ (gw_t (g_excL _ hq).1 rfl))) (ht _ (g_mwgw μ _ (gw_t (g_excL _ hq).2 rfl))) hsa hat hgood hK.2.2.2.2.1.1 hK.2.2.2.2.1.2 hS (hl.1.trans C.2.2.1.symm) d0 d3 d4 d6 d9 ?_ hRf (by rw [g_cats]; exact hRl) hRc hRs C.2.2.2.2.2.2.1 ?_ hS.2.2 hc hs6
  · rw [C.2.2.2.2.2.2.2.1, hh]
    intro x hx
    cases hx
  · intro t ht hz1 hk1
    refine ⟨_, hz, ⟨Nat.le_trans hR.1 hz1, (fun h => by cases h), hR.2.2.1, fun o ho => ?_⟩, Nat.le_trans hS.1 hz1, fun q h1 h2 => ?_⟩
    · have ho' : o < w.2.2.2.2.1 := ho
      have := hR.1
      exact (hR.2.2.2 o ho').kept (hk1 _ (by omega))
    · rw [hk1 q (Nat.lt_of_lt_of_le h1 hS.1)]
      exact hS.2.1 q h1 h2
end GMOW
theorem downL_cong {p q : Nat → Bool} : ∀ {n : Nat}, (∀ i, i < n → p i = q i) → downL p n = downL q n
  | 0, _ => rfl
  | n + 1, h => by rw [downL, downL, h n (by omega), downL_cong (n := n) (fun i hi => h i (by omega))]
theorem stOf_cong {f g : Nat → Int32} {s last : Nat} (h : ∀ i, i ≤ last → f i = g i) (hs : s ≤ last + 1) : stOf f s last = stOf g s last := by
  unfold stOf
  exact downL_cong (fun i hi => by rw [h i (by omega), h (i + s) (by omega)])
theorem perF_cong {p q : Nat → Bool} : ∀ {f s : Nat}, (∀ i, s ≤ i → i < s + f → p i = q i) → perF p f s = perF q f s
  | 0, _, _ => rfl
  | f + 1, s, h => by rw [perF, perF, h s (Nat.le_refl _) (by omega), perF_cong (f := f) (s := s + 1) (fun i h1 h2 => h i (by omega) (by omega))]
theorem perOf_cong {f g : Nat → Int32} {last : Nat} (h : ∀ i, i ≤ last → f i = g i) : perOf f last = perOf g last := by
  unfold perOf
  exact perF_cong (fun i h1 h2 => by rw [stOf_cong h (by omega)])
theorem perF_some {p : Nat → Bool} : ∀ {f s t : Nat}, perF p f s = some t → s ≤ t ∧ t < s + f ∧ p t = true
  | 0, _, _, h => by simp [perF] at h
  | f + 1, s, t, h => by
    rw [perF] at h
    split at h
    · cases h
      exact ⟨Nat.le_refl _, by omega, by assumption⟩
    · have := perF_some (f := f) (s := s + 1) h
      exact ⟨by omega, by omega, this.2.2⟩
theorem perOf_some {f : Nat → Int32} {last t : Nat} (h : perOf f last = some t) : 1 ≤ t ∧ 2 * t ≤ last + 1 := by
  have := perF_some h
  exact ⟨this.1, by omega⟩
theorem o2i_none {o : Option Nat} (h : o2i o = -1) (hb : ∀ t, o = some t → t < 2 ^ 31) : o = none := by
  cases o with
  | none => rfl
  | some t =>
    have h1 : nI t = -1 := h
    have := congrArg Int32.toInt h1
    rw [nI_toInt (hb t rfl)] at this
    have e : (-1 : Int32).toInt = -1 := rfl
    rw [e] at this
    omega
theorem o2i_some {o : Option Nat} (h : ¬ o2i o = -1) : ∃ t, o = some t := by
  cases o with
  | none => exact absurd rfl h
  | some t => exact ⟨t, rfl⟩
def vS (ru : Ru) (k : Nat) (i : Nat) : Int32 := nI (gv (ru.1 k) (ru.2.1 k) i)
/-- the heap that has the value, as many before it as left tells -/
def hwS (f : Nat → Int32) (v : Int32) : Nat → Nat → Int32 → Int32
  | 0, _, _ => -1
  | g + 1, n, left => if left < 0 then -1 else if f n = v then (if left = 0 then nI n else hwS f v g (n + 1) (left - 1)) else hwS f v g (n + 1) left
def mxR (f : Nat → Nat) : Nat → Nat
  | 0 => 0
  | n + 1 => max (mxR f n) (f n)
theorem mxR_le {f : Nat → Nat} {b : Nat} (h : ∀ i, f i ≤ b) : ∀ n, mxR f n ≤ b
  | 0 => Nat.zero_le _
  | n + 1 => by rw [mxR]; have := mxR_le h n; have := h n; omega
def prS (ru : Ru) (k m : Nat) : Bool := match perOf (vS ru k) m with
  | none => false
  | some t => decide (ru.1 k = 0) && decide (grS (ru.2.1 k) 60 ≤ m - t - stOf (vS ru k) t m + 1)
def stS (ru : Ru) (k m : Nat) : Int32 := match perOf (vS ru k) m with
  | none => -1
  | some t => nI (stOf (vS ru k) t m)
section FB
variable (E : GE) (l : Launch)
variable {I : Nat → Nat → Int32} {J : Nat → Nat → Int64} {R : Nat → Nat → Option Nat} {D : Nat → Nat → UInt64} {N : Nat} {ex : Bool} {sw : Bool} {A : AS} {n : Nat}
set_option maxRecDepth 100000 in
theorem c_mayTake_x1 (hl : lk R N sw) (h : rC I J sw A n) {x : Int32} (hx : x < 0 ∨ ¬ x < nI A.nr) (z : Int32) (y0 : Int32) : g_Ct E l mX6_mayTake 7 111 1 6 [.ref 0, .int x, .int z, .int y0] (I, J, R, D, N, ex) (g_ths "java/lang/IndexOutOfBoundsException" (I, J, R, D, N, false)) := by
  refine g_Ct.of (by decide +kernel) (lb rfl) ?_
  have hN := hl.2.2.2.2.2.2.2.2.2.2.2.2.2.2.2.2
  refine w_aload_n dX6_mayTake_0 rfl ?_
  refine w_iload_n dX6_mayTake_1 rfl ?_
  refine t_callV dX6_mayTake_2 lk_X6_124 [.int x] rfl (c_requireRule_x E l hl h hx) (g_recv.obj (ci := 6) rfl (by decide) (show 0 < N by omega)) rfl ⟨⟨by decide, by decide⟩, by decide, by decide⟩ (lb rfl) (w_out rfl ⟨rfl, rfl⟩ (by decide) (by decide))
set_option maxRecDepth 100000 in
theorem c_mayTake_x2 (hl : lk R N sw) (h : rC I J sw A n) {k : Nat} (hk : k < A.nr) {z : Int32} (hz : z < 0 ∨ ¬ z < nI 301) (y0 : Int32) : g_Ct E l mX6_mayTake 7 111 1 6 [.ref 0, .int (nI k), .int z, .int y0] (I, J, R, D, N, ex) (g_ths "java/lang/IllegalArgumentException" (I, J, R, D, N, false)) := by
  refine g_Ct.of (by decide +kernel) (lb rfl) ?_
  have hN := hl.2.2.2.2.2.2.2.2.2.2.2.2.2.2.2.2
  refine w_aload_n dX6_mayTake_0 rfl ?_
  refine w_iload_n dX6_mayTake_1 rfl ?_
  refine y_callV dX6_mayTake_2 lk_X6_124 [.int (nI k)] rfl (c_requireRule E l hl h hk) (g_recv.obj (ci := 6) rfl (by decide) (show 0 < N by omega)) rfl ⟨⟨by decide, by decide⟩, by decide, by decide⟩ (lb rfl) ?_
  refine w_astore dX6_mayTake_5 (by decide) rfl ?_
  refine w_iload_n dX6_mayTake_7 rfl ?_
  refine t_callS dX6_mayTake_8 lk_X6_133 [.int z] rfl (c_requireCounters_x E l hz) rfl ⟨⟨by decide, by decide⟩, by decide, by decide⟩ (lb rfl) (w_out rfl ⟨rfl, rfl⟩ (by decide) (by decide))
set_option maxRecDepth 100000 in
theorem c_mayTake (hl : lk R N sw) (h : rC I J sw A n) {k : Nat} (hk : k < A.nr) {m : Nat} (hm : m < 301) (y0 : Int32) : g_Ct E l mX6_mayTake 7 111 0 0 [.ref 0, .int (nI k), .int (nI m), .int y0] (I, J, R, D, N, ex) (g_is (some (.int (b2i (okI (A.ru.1 k) (A.ru.2.1 k) m y0)))) (I, J, R, D, N, ex)) := by
  refine g_Ct.of (by decide +kernel) (lb rfl) ?_
  have hN := hl.2.2.2.2.2.2.2.2.2.2.2.2.2.2.2.2
  have hgm := gm_b sw
  have hnr := h.1
  have hr := (hl.1.2.2.2.2.2.2 k (by omega)).2
  have hrN : gm sw + 4 + 3 * k < N := by have := hr.2.1; omega
  obtain ⟨hK, hS⟩ := h.2.2.1.2 k (by omega)
  have hK4 := (h.2.1.1 k (by omega)).1
  have hV : ∀ i, i < 301 → I (gm sw + 4 + 3 * k + 1) i = vS A.ru k i := fun i hi => by rw [show gm sw + 4 + 3 * k + 1 = gm sw + 5 + 3 * k by omega]; exact h.2.2.2.1 k hk i hi
  refine w_aload_n dX6_mayTake_0 rfl ?_
  refine w_iload_n dX6_mayTake_1 rfl ?_
  refine y_callV dX6_mayTake_2 lk_X6_124 [.int (nI k)] rfl (c_requireRule E l hl h hk) (g_recv.obj (ci := 6) rfl (by decide) (show 0 < N by omega)) rfl ⟨⟨by decide, by decide⟩, by decide, by decide⟩ (lb rfl) ?_
  refine w_astore dX6_mayTake_5 (by decide) rfl ?_
  refine w_iload_n dX6_mayTake_7 rfl ?_
  refine z_callS dX6_mayTake_8 lk_X6_133 [.int (nI m)] rfl (c_requireCounters E l _ (by omega)) rfl ⟨⟨by decide, by decide⟩, by decide, by decide⟩ (lb rfl) ?_
  refine w_aload dX6_mayTake_11 rfl ?_
  refine w_iload_n dX6_mayTake_13 rfl ?_
  refine w_iload_n dX6_mayTake_14 rfl ?_
  refine y_callV dX6_mayTake_15 lk_X6_136 [.int (nI m), .int y0] rfl (c_allows E l hr (by omega) hK hK4 y0) (g_recv.obj (ci := 2) hr.1 (by decide) hrN) rfl ⟨⟨by decide, by decide⟩, by decide, by decide⟩ (lb rfl) ?_
  rw [hS]
  refine w_iret dX6_mayTake_18 rfl (nz_b _) ⟨rfl, rfl⟩ (by decide) (by decide)
set_option maxRecDepth 100000 in
theorem c_amounts_x1 (hl : lk R N sw) (h : rC I J sw A n) {x : Int32} (hx : x < 0 ∨ ¬ x < nI A.nr) (z : Int32) : g_Ct E l mX6_amounts 7 111 1 6 [.ref 0, .int x, .int z] (I, J, R, D, N, ex) (g_ths "java/lang/IndexOutOfBoundsException" (I, J, R, D, N, false)) := by
  refine g_Ct.of (by decide +kernel) (lb rfl) ?_
  have hN := hl.2.2.2.2.2.2.2.2.2.2.2.2.2.2.2.2
  refine w_aload_n dX6_amounts_0 rfl ?_
  refine w_iload_n dX6_amounts_1 rfl ?_
  refine t_callV dX6_amounts_2 lk_X6_124 [.int x] rfl (c_requireRule_x E l hl h hx) (g_recv.obj (ci := 6) rfl (by decide) (show 0 < N by omega)) rfl ⟨⟨by decide, by decide⟩, by decide, by decide⟩ (lb rfl) (w_out rfl ⟨rfl, rfl⟩ (by decide) (by decide))
set_option maxRecDepth 100000 in
theorem c_amounts_x2 (hl : lk R N sw) (h : rC I J sw A n) {k : Nat} (hk : k < A.nr) {z : Int32} (hz : z < 0 ∨ ¬ z < nI 301) : g_Ct E l mX6_amounts 7 111 1 6 [.ref 0, .int (nI k), .int z] (I, J, R, D, N, ex) (g_ths "java/lang/IllegalArgumentException" (I, J, R, D, N, false)) := by
  refine g_Ct.of (by decide +kernel) (lb rfl) ?_
  have hN := hl.2.2.2.2.2.2.2.2.2.2.2.2.2.2.2.2
  refine w_aload_n dX6_amounts_0 rfl ?_
  refine w_iload_n dX6_amounts_1 rfl ?_
  refine y_callV dX6_amounts_2 lk_X6_124 [.int (nI k)] rfl (c_requireRule E l hl h hk) (g_recv.obj (ci := 6) rfl (by decide) (show 0 < N by omega)) rfl ⟨⟨by decide, by decide⟩, by decide, by decide⟩ (lb rfl) ?_
  refine w_astore_n dX6_amounts_5 (by decide) rfl ?_
  refine w_iload_n dX6_amounts_6 rfl ?_
  refine t_callS dX6_amounts_7 lk_X6_133 [.int z] rfl (c_requireCounters_x E l hz) rfl ⟨⟨by decide, by decide⟩, by decide, by decide⟩ (lb rfl) (w_out rfl ⟨rfl, rfl⟩ (by decide) (by decide))
set_option maxRecDepth 100000 in
theorem c_amounts (hl : lk R N sw) (h : rC I J sw A n) {k : Nat} (hk : k < A.nr) {m : Nat} (hm : m < 301) : g_Ct E l mX6_amounts 7 111 0 0 [.ref 0, .int (nI k), .int (nI m)] (I, J, R, D, N, ex) (g_is (some (.int (nI (cntA (okA (A.ru.1 k) (A.ru.2.1 k) m) m)))) (I, J, R, D, N, ex)) := by
  refine g_Ct.of (by decide +kernel) (lb rfl) ?_
  have hN := hl.2.2.2.2.2.2.2.2.2.2.2.2.2.2.2.2
  have hgm := gm_b sw
  have hnr := h.1
  have hr := (hl.1.2.2.2.2.2.2 k (by omega)).2
  have hrN : gm sw + 4 + 3 * k < N := by have := hr.2.1; omega
  obtain ⟨hK, hS⟩ := h.2.2.1.2 k (by omega)
  have hK4 := (h.2.1.1 k (by omega)).1
  have hV : ∀ i, i < 301 → I (gm sw + 4 + 3 * k + 1) i = vS A.ru k i := fun i hi => by rw [show gm sw + 4 + 3 * k + 1 = gm sw + 5 + 3 * k by omega]; exact h.2.2.2.1 k hk i hi
  refine w_aload_n dX6_amounts_0 rfl ?_
  refine w_iload_n dX6_amounts_1 rfl ?_
  refine y_callV dX6_amounts_2 lk_X6_124 [.int (nI k)] rfl (c_requireRule E l hl h hk) (g_recv.obj (ci := 6) rfl (by decide) (show 0 < N by omega)) rfl ⟨⟨by decide, by decide⟩, by decide, by decide⟩ (lb rfl) ?_
  refine w_astore_n dX6_amounts_5 (by decide) rfl ?_
  refine w_iload_n dX6_amounts_6 rfl ?_
  refine z_callS dX6_amounts_7 lk_X6_133 [.int (nI m)] rfl (c_requireCounters E l _ (by omega)) rfl ⟨⟨by decide, by decide⟩, by decide, by decide⟩ (lb rfl) ?_
  refine w_aload_n dX6_amounts_10 rfl ?_
  refine w_iload_n dX6_amounts_11 rfl ?_
  refine y_callV dX6_amounts_12 lk_X6_140 [.int (nI m)] rfl (c_countAmounts E l hr (by omega) hK hK4) (g_recv.obj (ci := 2) hr.1 (by decide) hrN) rfl ⟨⟨by decide, by decide⟩, by decide, by decide⟩ (lb rfl) ?_
  rw [hS]
  refine w_iret dX6_amounts_15 rfl rfl ⟨rfl, rfl⟩ (by decide) (by decide)
set_option maxRecDepth 100000 in
theorem c_value_x1 (hl : lk R N sw) (h : rC I J sw A n) {x : Int32} (hx : x < 0 ∨ ¬ x < nI A.nr) (z : Int32) : g_Ct E l mX6_value 7 111 1 6 [.ref 0, .int x, .int z] (I, J, R, D, N, ex) (g_ths "java/lang/IndexOutOfBoundsException" (I, J, R, D, N, false)) := by
  refine g_Ct.of (by decide +kernel) (lb rfl) ?_
  have hN := hl.2.2.2.2.2.2.2.2.2.2.2.2.2.2.2.2
  refine w_aload_n dX6_value_0 rfl ?_
  refine w_iload_n dX6_value_1 rfl ?_
  refine t_callV dX6_value_2 lk_X6_124 [.int x] rfl (c_requireRule_x E l hl h hx) (g_recv.obj (ci := 6) rfl (by decide) (show 0 < N by omega)) rfl ⟨⟨by decide, by decide⟩, by decide, by decide⟩ (lb rfl) (w_out rfl ⟨rfl, rfl⟩ (by decide) (by decide))
set_option maxRecDepth 100000 in
theorem c_value_x2 (hl : lk R N sw) (h : rC I J sw A n) {k : Nat} (hk : k < A.nr) {z : Int32} (hz : z < 0 ∨ ¬ z < nI 301) : g_Ct E l mX6_value 7 111 1 6 [.ref 0, .int (nI k), .int z] (I, J, R, D, N, ex) (g_ths "java/lang/IllegalArgumentException" (I, J, R, D, N, false)) := by
  refine g_Ct.of (by decide +kernel) (lb rfl) ?_
  have hN := hl.2.2.2.2.2.2.2.2.2.2.2.2.2.2.2.2
  refine w_aload_n dX6_value_0 rfl ?_
  refine w_iload_n dX6_value_1 rfl ?_
  refine y_callV dX6_value_2 lk_X6_124 [.int (nI k)] rfl (c_requireRule E l hl h hk) (g_recv.obj (ci := 6) rfl (by decide) (show 0 < N by omega)) rfl ⟨⟨by decide, by decide⟩, by decide, by decide⟩ (lb rfl) ?_
  refine w_astore_n dX6_value_5 (by decide) rfl ?_
  refine w_iload_n dX6_value_6 rfl ?_
  refine t_callS dX6_value_7 lk_X6_133 [.int z] rfl (c_requireCounters_x E l hz) rfl ⟨⟨by decide, by decide⟩, by decide, by decide⟩ (lb rfl) (w_out rfl ⟨rfl, rfl⟩ (by decide) (by decide))
set_option maxRecDepth 100000 in
theorem c_value (hl : lk R N sw) (h : rC I J sw A n) {k : Nat} (hk : k < A.nr) {m : Nat} (hm : m < 301) : g_Ct E l mX6_value 7 111 0 0 [.ref 0, .int (nI k), .int (nI m)] (I, J, R, D, N, ex) (g_is (some (.int (vS A.ru k m))) (I, J, R, D, N, ex)) := by
  refine g_Ct.of (by decide +kernel) (lb rfl) ?_
  have hN := hl.2.2.2.2.2.2.2.2.2.2.2.2.2.2.2.2
  have hgm := gm_b sw
  have hnr := h.1
  have hr := (hl.1.2.2.2.2.2.2 k (by omega)).2
  have hrN : gm sw + 4 + 3 * k < N := by have := hr.2.1; omega
  obtain ⟨hK, hS⟩ := h.2.2.1.2 k (by omega)
  have hK4 := (h.2.1.1 k (by omega)).1
  have hV : ∀ i, i < 301 → I (gm sw + 4 + 3 * k + 1) i = vS A.ru k i := fun i hi => by rw [show gm sw + 4 + 3 * k + 1 = gm sw + 5 + 3 * k by omega]; exact h.2.2.2.1 k hk i hi
  refine w_aload_n dX6_value_0 rfl ?_
  refine w_iload_n dX6_value_1 rfl ?_
  refine y_callV dX6_value_2 lk_X6_124 [.int (nI k)] rfl (c_requireRule E l hl h hk) (g_recv.obj (ci := 6) rfl (by decide) (show 0 < N by omega)) rfl ⟨⟨by decide, by decide⟩, by decide, by decide⟩ (lb rfl) ?_
  refine w_astore_n dX6_value_5 (by decide) rfl ?_
  refine w_iload_n dX6_value_6 rfl ?_
  refine z_callS dX6_value_7 lk_X6_133 [.int (nI m)] rfl (c_requireCounters E l _ (by omega)) rfl ⟨⟨by decide, by decide⟩, by decide, by decide⟩ (lb rfl) ?_
  refine w_aload_n dX6_value_10 rfl ?_
  refine w_iload_n dX6_value_11 rfl ?_
  refine y_callV dX6_value_12 lk_X6_143 [.int (nI m)] rfl (c_valueOf E l hr (by omega)) (g_recv.obj (ci := 2) hr.1 (by decide) hrN) rfl ⟨⟨by decide, by decide⟩, by decide, by decide⟩ (lb rfl) ?_
  rw [hV m hm]
  refine w_iret dX6_value_15 rfl rfl ⟨rfl, rfl⟩ (by decide) (by decide)
set_option maxRecDepth 100000 in
theorem c_period_x1 (hl : lk R N sw) (h : rC I J sw A n) {x : Int32} (hx : x < 0 ∨ ¬ x < nI A.nr) (z : Int32) : g_Ct E l mX6_period 7 111 1 6 [.ref 0, .int x, .int z] (I, J, R, D, N, ex) (g_ths "java/lang/IndexOutOfBoundsException" (I, J, R, D, N, false)) := by
  refine g_Ct.of (by decide +kernel) (lb rfl) ?_
  have hN := hl.2.2.2.2.2.2.2.2.2.2.2.2.2.2.2.2
  refine w_aload_n dX6_period_0 rfl ?_
  refine w_iload_n dX6_period_1 rfl ?_
  refine t_callV dX6_period_2 lk_X6_124 [.int x] rfl (c_requireRule_x E l hl h hx) (g_recv.obj (ci := 6) rfl (by decide) (show 0 < N by omega)) rfl ⟨⟨by decide, by decide⟩, by decide, by decide⟩ (lb rfl) (w_out rfl ⟨rfl, rfl⟩ (by decide) (by decide))
set_option maxRecDepth 100000 in
theorem c_period_x2 (hl : lk R N sw) (h : rC I J sw A n) {k : Nat} (hk : k < A.nr) {z : Int32} (hz : z < 0 ∨ ¬ z < nI 301) : g_Ct E l mX6_period 7 111 1 6 [.ref 0, .int (nI k), .int z] (I, J, R, D, N, ex) (g_ths "java/lang/IllegalArgumentException" (I, J, R, D, N, false)) := by
  refine g_Ct.of (by decide +kernel) (lb rfl) ?_
  have hN := hl.2.2.2.2.2.2.2.2.2.2.2.2.2.2.2.2
  refine w_aload_n dX6_period_0 rfl ?_
  refine w_iload_n dX6_period_1 rfl ?_
  refine y_callV dX6_period_2 lk_X6_124 [.int (nI k)] rfl (c_requireRule E l hl h hk) (g_recv.obj (ci := 6) rfl (by decide) (show 0 < N by omega)) rfl ⟨⟨by decide, by decide⟩, by decide, by decide⟩ (lb rfl) ?_
  refine w_astore_n dX6_period_5 (by decide) rfl ?_
  refine w_iload_n dX6_period_6 rfl ?_
  refine t_callS dX6_period_7 lk_X6_133 [.int z] rfl (c_requireCounters_x E l hz) rfl ⟨⟨by decide, by decide⟩, by decide, by decide⟩ (lb rfl) (w_out rfl ⟨rfl, rfl⟩ (by decide) (by decide))
set_option maxRecDepth 100000 in
theorem c_period (hl : lk R N sw) (h : rC I J sw A n) {k : Nat} (hk : k < A.nr) {m : Nat} (hm : m < 301) : g_Ct E l mX6_period 7 111 0 0 [.ref 0, .int (nI k), .int (nI m)] (I, J, R, D, N, ex) (g_is (some (.int (o2i (perOf (vS A.ru k) m)))) (I, J, R, D, N, ex)) := by
  refine g_Ct.of (by decide +kernel) (lb rfl) ?_
  have hN := hl.2.2.2.2.2.2.2.2.2.2.2.2.2.2.2.2
  have hgm := gm_b sw
  have hnr := h.1
  have hr := (hl.1.2.2.2.2.2.2 k (by omega)).2
  have hrN : gm sw + 4 + 3 * k < N := by have := hr.2.1; omega
  obtain ⟨hK, hS⟩ := h.2.2.1.2 k (by omega)
  have hK4 := (h.2.1.1 k (by omega)).1
  have hV : ∀ i, i < 301 → I (gm sw + 4 + 3 * k + 1) i = vS A.ru k i := fun i hi => by rw [show gm sw + 4 + 3 * k + 1 = gm sw + 5 + 3 * k by omega]; exact h.2.2.2.1 k hk i hi
  refine w_aload_n dX6_period_0 rfl ?_
  refine w_iload_n dX6_period_1 rfl ?_
  refine y_callV dX6_period_2 lk_X6_124 [.int (nI k)] rfl (c_requireRule E l hl h hk) (g_recv.obj (ci := 6) rfl (by decide) (show 0 < N by omega)) rfl ⟨⟨by decide, by decide⟩, by decide, by decide⟩ (lb rfl) ?_
  refine w_astore_n dX6_period_5 (by decide) rfl ?_
  refine w_iload_n dX6_period_6 rfl ?_
  refine z_callS dX6_period_7 lk_X6_133 [.int (nI m)] rfl (c_requireCounters E l _ (by omega)) rfl ⟨⟨by decide, by decide⟩, by decide, by decide⟩ (lb rfl) ?_
  refine w_aload_n dX6_period_10 rfl ?_
  refine w_iload_n dX6_period_11 rfl ?_
  refine y_callV dX6_period_12 lk_X6_152 [.int (nI m)] rfl (c_periodUpTo E l hr (by omega)) (g_recv.obj (ci := 2) hr.1 (by decide) hrN) rfl ⟨⟨by decide, by decide⟩, by decide, by decide⟩ (lb rfl) ?_
  rw [perOf_cong (g := vS A.ru k) (fun i hi => hV i (by omega))]
  refine w_iret dX6_period_15 rfl rfl ⟨rfl, rfl⟩ (by decide) (by decide)
set_option maxRecDepth 100000 in
theorem c_greatest_x1 (hl : lk R N sw) (h : rC I J sw A n) {x : Int32} (hx : x < 0 ∨ ¬ x < nI A.nr) (z : Int32) : g_Ct E l mX6_greatest 7 111 1 6 [.ref 0, .int x, .int z] (I, J, R, D, N, ex) (g_ths "java/lang/IndexOutOfBoundsException" (I, J, R, D, N, false)) := by
  refine g_Ct.of (by decide +kernel) (lb rfl) ?_
  have hN := hl.2.2.2.2.2.2.2.2.2.2.2.2.2.2.2.2
  refine w_aload_n dX6_greatest_0 rfl ?_
  refine w_iload_n dX6_greatest_1 rfl ?_
  refine t_callV dX6_greatest_2 lk_X6_124 [.int x] rfl (c_requireRule_x E l hl h hx) (g_recv.obj (ci := 6) rfl (by decide) (show 0 < N by omega)) rfl ⟨⟨by decide, by decide⟩, by decide, by decide⟩ (lb rfl) (w_out rfl ⟨rfl, rfl⟩ (by decide) (by decide))
set_option maxRecDepth 100000 in
theorem c_greatest_x2 (hl : lk R N sw) (h : rC I J sw A n) {k : Nat} (hk : k < A.nr) {z : Int32} (hz : z < 0 ∨ ¬ z < nI 301) : g_Ct E l mX6_greatest 7 111 1 6 [.ref 0, .int (nI k), .int z] (I, J, R, D, N, ex) (g_ths "java/lang/IllegalArgumentException" (I, J, R, D, N, false)) := by
  refine g_Ct.of (by decide +kernel) (lb rfl) ?_
  have hN := hl.2.2.2.2.2.2.2.2.2.2.2.2.2.2.2.2
  refine w_aload_n dX6_greatest_0 rfl ?_
  refine w_iload_n dX6_greatest_1 rfl ?_
  refine y_callV dX6_greatest_2 lk_X6_124 [.int (nI k)] rfl (c_requireRule E l hl h hk) (g_recv.obj (ci := 6) rfl (by decide) (show 0 < N by omega)) rfl ⟨⟨by decide, by decide⟩, by decide, by decide⟩ (lb rfl) ?_
  refine w_astore_n dX6_greatest_5 (by decide) rfl ?_
  refine w_iload_n dX6_greatest_6 rfl ?_
  refine t_callS dX6_greatest_7 lk_X6_133 [.int z] rfl (c_requireCounters_x E l hz) rfl ⟨⟨by decide, by decide⟩, by decide, by decide⟩ (lb rfl) (w_out rfl ⟨rfl, rfl⟩ (by decide) (by decide))
set_option maxRecDepth 100000 in
theorem c_greatest (hl : lk R N sw) (h : rC I J sw A n) {k : Nat} (hk : k < A.nr) {m : Nat} (hm : m < 301) : g_Ct E l mX6_greatest 7 111 0 0 [.ref 0, .int (nI k), .int (nI m)] (I, J, R, D, N, ex) (g_is (some (.int (nI (mxR (gv (A.ru.1 k) (A.ru.2.1 k)) (m + 1))))) (I, J, R, D, N, ex)) := by
  refine g_Ct.of (by decide +kernel) (lb rfl) ?_
  have hN := hl.2.2.2.2.2.2.2.2.2.2.2.2.2.2.2.2
  have hgm := gm_b sw
  have hnr := h.1
  have hr := (hl.1.2.2.2.2.2.2 k (by omega)).2
  have hrN : gm sw + 4 + 3 * k < N := by have := hr.2.1; omega
  obtain ⟨hK, hS⟩ := h.2.2.1.2 k (by omega)
  have hK4 := (h.2.1.1 k (by omega)).1
  have hV : ∀ i, i < 301 → I (gm sw + 4 + 3 * k + 1) i = vS A.ru k i := fun i hi => by rw [show gm sw + 4 + 3 * k + 1 = gm sw + 5 + 3 * k by omega]; exact h.2.2.2.1 k hk i hi
  have hmx : ∀ a, a ≤ 301 → mxR (fun i => if i < 301 then gv (A.ru.1 k) (A.ru.2.1 k) i else 0) a = mxR (gv (A.ru.1 k) (A.ru.2.1 k)) a := by
    intro a
    induction a with
    | zero => intro _; rfl
    | succ a ih => intro ha; rw [mxR, mxR, ih (by omega), if_pos (by omega)]
  have hmx2 : ∀ a, a ≤ 301 → mxR (gv (A.ru.1 k) (A.ru.2.1 k)) a ≤ 300 := by
    intro a ha
    rw [← hmx a ha]
    exact mxR_le (fun i => by split; (have := gv_le (A.ru.1 k) (A.ru.2.1 k) i; omega); omega) a
  have loop : ∀ f a : Nat, a + f = m + 1 → g_Wp E l mX6_greatest { frames := 7, cells := 0, slots := 0, locals := 111 } (g_Fin E (g_is (some (.int (nI (mxR (gv (A.ru.1 k) (A.ru.2.1 k)) (m + 1))))) (I, J, R, D, N, ex)) 0 0) 0 0 16 [(5, .int (nI a)), (4, .int (nI (mxR (gv (A.ru.1 k) (A.ru.2.1 k)) a))), (2, .int (nI m)), (3, .ref (gm sw + 4 + 3 * k))] [] (I, J, R, D, N, ex) := by
    intro f
    induction f with
    | zero =>
      intro a ha
      obtain rfl : a = m + 1 := by omega
      refine w_iload dX6_greatest_16 rfl ?_
      refine w_iload_n dX6_greatest_18 rfl ?_
      refine w_icmp_gt (tgt := 41) dX6_greatest_19 (by decide) (fun c_19 => ?_) (fun c_19 => absurd ((nI_lt (by omega) (by omega))) c_19)
      refine w_iload dX6_greatest_41 rfl ?_
      refine w_iret dX6_greatest_43 rfl rfl ⟨rfl, rfl⟩ (by decide) (by decide)
    | succ f ih =>
      intro a ha
      have h1 := hmx2 a (by omega)
      have h2 := gv_le (A.ru.1 k) (A.ru.2.1 k) a
      refine w_iload dX6_greatest_16 rfl ?_
      refine w_iload_n dX6_greatest_18 rfl ?_
      refine w_icmp_gt (tgt := 41) dX6_greatest_19 (by decide) (fun c_19 => absurd c_19 ((nI_nlt (by omega) (by omega)))) (fun c_19 => ?_)
      refine w_iload dX6_greatest_22 rfl ?_
      refine w_aload_n dX6_greatest_24 rfl ?_
      refine w_iload dX6_greatest_25 rfl ?_
      refine y_callV dX6_greatest_27 lk_X6_143 [.int (nI a)] rfl (c_valueOf E l hr (by omega)) (g_recv.obj (ci := 2) hr.1 (by decide) hrN) rfl ⟨⟨by decide, by decide⟩, by decide, by decide⟩ (lb rfl) ?_
      rw [hV a (by omega)]
      refine w_mmax dX6_greatest_30 lk_X6_146.2.2.1 (by decide) (lb rfl) (by decide) (by decide) ?_
      rw [show (if nI (mxR (gv (A.ru.1 k) (A.ru.2.1 k)) a) < vS A.ru k a then vS A.ru k a else nI (mxR (gv (A.ru.1 k) (A.ru.2.1 k)) a)) = nI (mxR (gv (A.ru.1 k) (A.ru.2.1 k)) (a + 1)) from mm_max2 (by omega) (by omega)]
      refine w_istore dX6_greatest_33 (by decide) rfl ?_
      refine w_iinc (v := nI (a + 1)) dX6_greatest_35 rfl (nI_inc _) (by decide) rfl ?_
      refine w_goto (tgt := 16) dX6_greatest_38 (by decide) ?_
      exact w_lv [5, 4, 2, 3] (ih (a + 1) (by omega))
  refine w_aload_n dX6_greatest_0 rfl ?_
  refine w_iload_n dX6_greatest_1 rfl ?_
  refine y_callV dX6_greatest_2 lk_X6_124 [.int (nI k)] rfl (c_requireRule E l hl h hk) (g_recv.obj (ci := 6) rfl (by decide) (show 0 < N by omega)) rfl ⟨⟨by decide, by decide⟩, by decide, by decide⟩ (lb rfl) ?_
  refine w_astore_n dX6_greatest_5 (by decide) rfl ?_
  refine w_iload_n dX6_greatest_6 rfl ?_
  refine z_callS dX6_greatest_7 lk_X6_133 [.int (nI m)] rfl (c_requireCounters E l _ (by omega)) rfl ⟨⟨by decide, by decide⟩, by decide, by decide⟩ (lb rfl) ?_
  refine w_iconst (v := 0) dX6_greatest_10 (by decide) ?_
  refine w_istore dX6_greatest_11 (by decide) rfl ?_
  refine w_iconst (v := 0) dX6_greatest_13 (by decide) ?_
  refine w_istore dX6_greatest_14 (by decide) rfl ?_
  exact w_lv [5, 4, 2, 3] (loop (m + 1) 0 (by omega))
set_option maxRecDepth 100000 in
theorem c_start_x1 (hl : lk R N sw) (h : rC I J sw A n) {x : Int32} (hx : x < 0 ∨ ¬ x < nI A.nr) (z : Int32) : g_Ct E l mX6_start 7 111 1 6 [.ref 0, .int x, .int z] (I, J, R, D, N, ex) (g_ths "java/lang/IndexOutOfBoundsException" (I, J, R, D, N, false)) := by
  refine g_Ct.of (by decide +kernel) (lb rfl) ?_
  have hN := hl.2.2.2.2.2.2.2.2.2.2.2.2.2.2.2.2
  refine w_aload_n dX6_start_0 rfl ?_
  refine w_iload_n dX6_start_1 rfl ?_
  refine t_callV dX6_start_2 lk_X6_124 [.int x] rfl (c_requireRule_x E l hl h hx) (g_recv.obj (ci := 6) rfl (by decide) (show 0 < N by omega)) rfl ⟨⟨by decide, by decide⟩, by decide, by decide⟩ (lb rfl) (w_out rfl ⟨rfl, rfl⟩ (by decide) (by decide))
set_option maxRecDepth 100000 in
theorem c_start_x2 (hl : lk R N sw) (h : rC I J sw A n) {k : Nat} (hk : k < A.nr) {z : Int32} (hz : z < 0 ∨ ¬ z < nI 301) : g_Ct E l mX6_start 7 111 1 6 [.ref 0, .int (nI k), .int z] (I, J, R, D, N, ex) (g_ths "java/lang/IllegalArgumentException" (I, J, R, D, N, false)) := by
  refine g_Ct.of (by decide +kernel) (lb rfl) ?_
  have hN := hl.2.2.2.2.2.2.2.2.2.2.2.2.2.2.2.2
  refine w_aload_n dX6_start_0 rfl ?_
  refine w_iload_n dX6_start_1 rfl ?_
  refine y_callV dX6_start_2 lk_X6_124 [.int (nI k)] rfl (c_requireRule E l hl h hk) (g_recv.obj (ci := 6) rfl (by decide) (show 0 < N by omega)) rfl ⟨⟨by decide, by decide⟩, by decide, by decide⟩ (lb rfl) ?_
  refine w_astore_n dX6_start_5 (by decide) rfl ?_
  refine w_iload_n dX6_start_6 rfl ?_
  refine t_callS dX6_start_7 lk_X6_133 [.int z] rfl (c_requireCounters_x E l hz) rfl ⟨⟨by decide, by decide⟩, by decide, by decide⟩ (lb rfl) (w_out rfl ⟨rfl, rfl⟩ (by decide) (by decide))
set_option maxRecDepth 100000 in
theorem c_start (hl : lk R N sw) (h : rC I J sw A n) {k : Nat} (hk : k < A.nr) {m : Nat} (hm : m < 301) : g_Ct E l mX6_start 7 111 0 0 [.ref 0, .int (nI k), .int (nI m)] (I, J, R, D, N, ex) (g_is (some (.int (stS A.ru k m))) (I, J, R, D, N, ex)) := by
  refine g_Ct.of (by decide +kernel) (lb rfl) ?_
  have hN := hl.2.2.2.2.2.2.2.2.2.2.2.2.2.2.2.2
  have hgm := gm_b sw
  have hnr := h.1
  have hr := (hl.1.2.2.2.2.2.2 k (by omega)).2
  have hrN : gm sw + 4 + 3 * k < N := by have := hr.2.1; omega
  obtain ⟨hK, hS⟩ := h.2.2.1.2 k (by omega)
  have hK4 := (h.2.1.1 k (by omega)).1
  have hV : ∀ i, i < 301 → I (gm sw + 4 + 3 * k + 1) i = vS A.ru k i := fun i hi => by rw [show gm sw + 4 + 3 * k + 1 = gm sw + 5 + 3 * k by omega]; exact h.2.2.2.1 k hk i hi
  refine w_aload_n dX6_start_0 rfl ?_
  refine w_iload_n dX6_start_1 rfl ?_
  refine y_callV dX6_start_2 lk_X6_124 [.int (nI k)] rfl (c_requireRule E l hl h hk) (g_recv.obj (ci := 6) rfl (by decide) (show 0 < N by omega)) rfl ⟨⟨by decide, by decide⟩, by decide, by decide⟩ (lb rfl) ?_
  refine w_astore_n dX6_start_5 (by decide) rfl ?_
  refine w_iload_n dX6_start_6 rfl ?_
  refine z_callS dX6_start_7 lk_X6_133 [.int (nI m)] rfl (c_requireCounters E l _ (by omega)) rfl ⟨⟨by decide, by decide⟩, by decide, by decide⟩ (lb rfl) ?_
  refine w_aload_n dX6_start_10 rfl ?_
  refine w_iload_n dX6_start_11 rfl ?_
  refine y_callV dX6_start_12 lk_X6_152 [.int (nI m)] rfl (c_periodUpTo E l hr (by omega)) (g_recv.obj (ci := 2) hr.1 (by decide) hrN) rfl ⟨⟨by decide, by decide⟩, by decide, by decide⟩ (lb rfl) ?_
  rw [perOf_cong (g := vS A.ru k) (fun i hi => hV i (by omega))]
  refine w_istore dX6_start_15 (by decide) rfl ?_
  refine w_iload dX6_start_17 rfl ?_
  refine w_iconst (v := (-1)) dX6_start_19 (by decide) ?_
  refine w_icmp_ne (tgt := 27) dX6_start_20 (by decide) (fun c_20 => ?_) (fun c_20 => ?_)
  · obtain ⟨t, ht⟩ := o2i_some c_20
    have hts := perOf_some ht
    refine w_aload_n dX6_start_27 rfl ?_
    refine w_iload dX6_start_28 rfl ?_
    refine w_iload_n dX6_start_30 rfl ?_
    rw [show o2i (perOf (vS A.ru k) m) = nI t by rw [ht]; rfl]
    refine y_callV dX6_start_31 lk_X6_155 [.int (nI t), .int (nI m)] rfl (c_startOfStep E l hr hts.1 (by omega) (by omega)) (g_recv.obj (ci := 2) hr.1 (by decide) hrN) rfl ⟨⟨by decide, by decide⟩, by decide, by decide⟩ (lb rfl) ?_
    rw [stOf_cong (g := vS A.ru k) (fun i hi => hV i (by omega)) (by omega)]
    refine w_iret dX6_start_34 rfl rfl (by first | exact ⟨rt_i (by unfold stS; rw [ht]), rfl⟩ | exact ⟨rt_i (by unfold stS; rw [o2i_none c_20 (fun t ht => by have := perOf_some ht; omega)]), rfl⟩) (by decide) (by decide)
  · refine w_iconst (v := (-1)) dX6_start_23 (by decide) ?_
    refine w_goto (tgt := 34) dX6_start_24 (by decide) ?_
    refine w_iret dX6_start_34 rfl rfl (by first | exact ⟨rt_i (by unfold stS; rw [ht]), rfl⟩ | exact ⟨rt_i (by unfold stS; rw [o2i_none c_20 (fun t ht => by have := perOf_some ht; omega)]), rfl⟩) (by decide) (by decide)
set_option maxRecDepth 100000 in
theorem c_isProved_x1 (hl : lk R N sw) (h : rC I J sw A n) {x : Int32} (hx : x < 0 ∨ ¬ x < nI A.nr) (z : Int32) : g_Ct E l mX6_isProved 7 111 1 6 [.ref 0, .int x, .int z] (I, J, R, D, N, ex) (g_ths "java/lang/IndexOutOfBoundsException" (I, J, R, D, N, false)) := by
  refine g_Ct.of (by decide +kernel) (lb rfl) ?_
  have hN := hl.2.2.2.2.2.2.2.2.2.2.2.2.2.2.2.2
  refine w_aload_n dX6_isProved_0 rfl ?_
  refine w_iload_n dX6_isProved_1 rfl ?_
  refine t_callV dX6_isProved_2 lk_X6_124 [.int x] rfl (c_requireRule_x E l hl h hx) (g_recv.obj (ci := 6) rfl (by decide) (show 0 < N by omega)) rfl ⟨⟨by decide, by decide⟩, by decide, by decide⟩ (lb rfl) (w_out rfl ⟨rfl, rfl⟩ (by decide) (by decide))
set_option maxRecDepth 100000 in
theorem c_isProved_x2 (hl : lk R N sw) (h : rC I J sw A n) {k : Nat} (hk : k < A.nr) {z : Int32} (hz : z < 0 ∨ ¬ z < nI 301) : g_Ct E l mX6_isProved 7 111 1 6 [.ref 0, .int (nI k), .int z] (I, J, R, D, N, ex) (g_ths "java/lang/IllegalArgumentException" (I, J, R, D, N, false)) := by
  refine g_Ct.of (by decide +kernel) (lb rfl) ?_
  have hN := hl.2.2.2.2.2.2.2.2.2.2.2.2.2.2.2.2
  refine w_aload_n dX6_isProved_0 rfl ?_
  refine w_iload_n dX6_isProved_1 rfl ?_
  refine y_callV dX6_isProved_2 lk_X6_124 [.int (nI k)] rfl (c_requireRule E l hl h hk) (g_recv.obj (ci := 6) rfl (by decide) (show 0 < N by omega)) rfl ⟨⟨by decide, by decide⟩, by decide, by decide⟩ (lb rfl) ?_
  refine w_astore_n dX6_isProved_5 (by decide) rfl ?_
  refine w_iload_n dX6_isProved_6 rfl ?_
  refine t_callS dX6_isProved_7 lk_X6_133 [.int z] rfl (c_requireCounters_x E l hz) rfl ⟨⟨by decide, by decide⟩, by decide, by decide⟩ (lb rfl) (w_out rfl ⟨rfl, rfl⟩ (by decide) (by decide))
set_option maxRecDepth 100000 in
theorem c_isProved (hl : lk R N sw) (h : rC I J sw A n) {k : Nat} (hk : k < A.nr) {m : Nat} (hm : m < 301) : g_Ct E l mX6_isProved 7 111 0 0 [.ref 0, .int (nI k), .int (nI m)] (I, J, R, D, N, ex) (g_is (some (.int (b2i (prS A.ru k m)))) (I, J, R, D, N, ex)) := by
  refine g_Ct.of (by decide +kernel) (lb rfl) ?_
  have hN := hl.2.2.2.2.2.2.2.2.2.2.2.2.2.2.2.2
  have hgm := gm_b sw
  have hnr := h.1
  have hr := (hl.1.2.2.2.2.2.2 k (by omega)).2
  have hrN : gm sw + 4 + 3 * k < N := by have := hr.2.1; omega
  obtain ⟨hK, hS⟩ := h.2.2.1.2 k (by omega)
  have hK4 := (h.2.1.1 k (by omega)).1
  have hV : ∀ i, i < 301 → I (gm sw + 4 + 3 * k + 1) i = vS A.ru k i := fun i hi => by rw [show gm sw + 4 + 3 * k + 1 = gm sw + 5 + 3 * k by omega]; exact h.2.2.2.1 k hk i hi
  refine w_aload_n dX6_isProved_0 rfl ?_
  refine w_iload_n dX6_isProved_1 rfl ?_
  refine y_callV dX6_isProved_2 lk_X6_124 [.int (nI k)] rfl (c_requireRule E l hl h hk) (g_recv.obj (ci := 6) rfl (by decide) (show 0 < N by omega)) rfl ⟨⟨by decide, by decide⟩, by decide, by decide⟩ (lb rfl) ?_
  refine w_astore_n dX6_isProved_5 (by decide) rfl ?_
  refine w_iload_n dX6_isProved_6 rfl ?_
  refine z_callS dX6_isProved_7 lk_X6_133 [.int (nI m)] rfl (c_requireCounters E l _ (by omega)) rfl ⟨⟨by decide, by decide⟩, by decide, by decide⟩ (lb rfl) ?_
  refine w_aload_n dX6_isProved_10 rfl ?_
  refine w_iload_n dX6_isProved_11 rfl ?_
  refine y_callV dX6_isProved_12 lk_X6_152 [.int (nI m)] rfl (c_periodUpTo E l hr (by omega)) (g_recv.obj (ci := 2) hr.1 (by decide) hrN) rfl ⟨⟨by decide, by decide⟩, by decide, by decide⟩ (lb rfl) ?_
  rw [perOf_cong (g := vS A.ru k) (fun i hi => hV i (by omega))]
  refine w_istore dX6_isProved_15 (by decide) rfl ?_
  refine w_iload dX6_isProved_17 rfl ?_
  refine w_iconst (v := (-1)) dX6_isProved_19 (by decide) ?_
  refine w_icmp_eq (tgt := 30) dX6_isProved_20 (by decide) (fun c_20 => ?_) (fun c_20 => ?_)
  · refine w_iconst (v := 0) dX6_isProved_30 (by decide) ?_
    refine w_iret dX6_isProved_31 rfl (by rfl) (by first | exact ⟨rt_f (by unfold prS; rw [o2i_none c_20 (fun t ht => by have := perOf_some ht; omega)]), rfl⟩ | exact ⟨rt_f (by obtain ⟨t, ht⟩ := o2i_some c_20; unfold prS; rw [ht]; simp only []; rw [decide_eq_false (show ¬ A.ru.1 k = 0 from fun q => c_27 (by rw [q]; rfl))]; rfl), rfl⟩) (by decide) (by decide)
  · refine w_aload_n dX6_isProved_23 rfl ?_
    refine x_geti (ci := 2) (k := 1) dX6_isProved_24 hr.1 (by decide) (by decide) hrN fl_X6_128 rfl ?_
    rw [hK]
    refine w_if_eq (tgt := 32) dX6_isProved_27 (by decide) (fun c_27 => ?_) (fun c_27 => ?_)
    · obtain ⟨t, ht⟩ := o2i_some c_20
      have hts := perOf_some ht
      have hsl := downL_le (fun i => decide (vS A.ru k i = vS A.ru k (i + t))) (m + 1 - t)
      have hsl2 : stOf (vS A.ru k) t m ≤ m + 1 - t := hsl
      have hP := perF_some (p := fun s => decide (stOf (vS A.ru k) s m + 2 * s ≤ m + 1)) ht
      have hP2 : stOf (vS A.ru k) t m + 2 * t ≤ m + 1 := of_decide_eq_true hP.2.2
      have hgr := grS_le (A.ru.2.1 k) 60
      refine w_iload_n dX6_isProved_32 rfl ?_
      refine w_iload dX6_isProved_33 rfl ?_
      rw [show o2i (perOf (vS A.ru k) m) = nI t by rw [ht]; rfl]
      refine w_isub dX6_isProved_35 ?_
      rw [pk_sub (by omega)]
      refine w_aload_n dX6_isProved_36 rfl ?_
      refine w_iload dX6_isProved_37 rfl ?_
      skip
      refine w_iload_n dX6_isProved_39 rfl ?_
      refine y_callV dX6_isProved_40 lk_X6_155 [.int (nI t), .int (nI m)] rfl (c_startOfStep E l hr hts.1 (by omega) (by omega)) (g_recv.obj (ci := 2) hr.1 (by decide) hrN) rfl ⟨⟨by decide, by decide⟩, by decide, by decide⟩ (lb rfl) ?_
      rw [stOf_cong (g := vS A.ru k) (fun i hi => hV i (by omega)) (by omega)]
      refine w_isub dX6_isProved_43 ?_
      rw [pk_sub (by omega)]
      refine w_iconst (v := 1) dX6_isProved_44 (by decide) ?_
      refine w_iadd dX6_isProved_45 ?_
      rw [nI_1]
      refine w_aload_n dX6_isProved_46 rfl ?_
      refine y_callV dX6_isProved_47 lk_X6_158 [] rfl (c_greatestAmount E l hr) (g_recv.obj (ci := 2) hr.1 (by decide) hrN) rfl ⟨⟨by decide, by decide⟩, by decide, by decide⟩ (lb rfl) ?_
      rw [hS]
      refine w_icmp_lt (tgt := 57) dX6_isProved_50 (by decide) (fun c_50 => ?_) (fun c_50 => ?_)
      · refine w_iconst (v := 0) dX6_isProved_57 (by decide) ?_
        refine w_iret dX6_isProved_58 rfl (by rfl) (by first | exact ⟨rt_f (by unfold prS; rw [ht]; simp only []; rw [decide_eq_false (show ¬ grS (A.ru.2.1 k) 60 ≤ m - t - stOf (vS A.ru k) t m + 1 by have := n_lt c_50; omega)]; simp), rfl⟩ | exact ⟨rt_t (by unfold prS; rw [ht]; simp only []; rw [decide_eq_true (show grS (A.ru.2.1 k) 60 ≤ m - t - stOf (vS A.ru k) t m + 1 by have := n_nlt c_50; omega), decide_eq_true (show A.ru.1 k = 0 from n_eq (b := 0) c_27)]; rfl), rfl⟩) (by decide) (by decide)
      · refine w_iconst (v := 1) dX6_isProved_53 (by decide) ?_
        refine w_goto (tgt := 58) dX6_isProved_54 (by decide) ?_
        refine w_iret dX6_isProved_58 rfl (by rfl) (by first | exact ⟨rt_f (by unfold prS; rw [ht]; simp only []; rw [decide_eq_false (show ¬ grS (A.ru.2.1 k) 60 ≤ m - t - stOf (vS A.ru k) t m + 1 by have := n_lt c_50; omega)]; simp), rfl⟩ | exact ⟨rt_t (by unfold prS; rw [ht]; simp only []; rw [decide_eq_true (show grS (A.ru.2.1 k) 60 ≤ m - t - stOf (vS A.ru k) t m + 1 by have := n_nlt c_50; omega), decide_eq_true (show A.ru.1 k = 0 from n_eq (b := 0) c_27)]; rfl), rfl⟩) (by decide) (by decide)
    · refine w_iconst (v := 0) dX6_isProved_30 (by decide) ?_
      refine w_iret dX6_isProved_31 rfl (by rfl) (by first | exact ⟨rt_f (by unfold prS; rw [o2i_none c_20 (fun t ht => by have := perOf_some ht; omega)]), rfl⟩ | exact ⟨rt_f (by obtain ⟨t, ht⟩ := o2i_some c_20; unfold prS; rw [ht]; simp only []; rw [decide_eq_false (show ¬ A.ru.1 k = 0 from fun q => c_27 (by rw [q]; rfl))]; rfl), rfl⟩) (by decide) (by decide)
end FB
