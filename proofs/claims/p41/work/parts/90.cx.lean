/-! ROWS: things that are made, in a world that is written out; HeapGames$State, HeapGames$Rule: their constructors -/
def g_zf (I : Nat → Nat → Int32) (J : Nat → Nat → Int64) (R : Nat → Nat → Option Nat) (D : Nat → Nat → UInt64) (n : Nat) : Prop := ∀ o, n ≤ o → ∀ k, I o k = 0 ∧ J o k = 0 ∧ R o k = none ∧ D o k = 0
def g_okt : FieldType → Bool := fun t => match t with | .float => false | _ => true
theorem g_okt_all : ∀ c, c < 8 → ∀ k, k < 50 → g_okt (g_ft c k) = true := by decide +kernel
theorem g_okt_c {c k : Nat} (hc : c < 8) (hk : k < g_N c) : g_okt (g_ft c k) = true := by
  refine g_okt_all c hc k (Nat.lt_of_lt_of_le hk ?_)
  rcases (show c = 0 ∨ c = 1 ∨ c = 2 ∨ c = 3 ∨ c = 4 ∨ c = 5 ∨ c = 6 ∨ c = 7 by omega) with rfl | rfl | rfl | rfl | rfl | rfl | rfl | rfl <;> decide
section GC0
variable {I : Nat → Nat → Int32} {J : Nat → Nat → Int64} {R : Nat → Nat → Option Nat} {D : Nat → Nat → UInt64} {n n' a b : Nat} {ex : Bool}
theorem g_zf.mono (h : g_zf I J R D n) (hn : n ≤ n') : g_zf I J R D n' := fun o ho => h o (Nat.le_trans hn ho)
theorem g_zf.r {v : Option Nat} (h : g_zf I J R D n) (ha : a < n) : g_zf I J (up2 R a b v) D n := fun o ho k => by
  obtain ⟨h1, h2, h3, h4⟩ := h o ho k
  exact ⟨h1, h2, by rw [up2_n _ _ (by simp; omega)]; exact h3, h4⟩
theorem g_zf.i {v : Int32} (h : g_zf I J R D n) (ha : a < n) : g_zf (up2 I a b v) J R D n := fun o ho k => by
  obtain ⟨h1, h2, h3, h4⟩ := h o ho k
  exact ⟨by rw [up2_n _ _ (by simp; omega)]; exact h1, h2, h3, h4⟩
theorem g_zf.val {ty : FieldType} (h : g_zf I J R D n) (ht : g_okt ty = true) (k : Nat) : g_val (I, J, R, D, n', ex) ty n k = defaultValue ty := by
  obtain ⟨h1, h2, h3, h4⟩ := h n (Nat.le_refl _) k
  cases ty with
  | float => cases ht
  | long => show Value.long (J n k) = _; rw [h2]; rfl
  | double => show Value.double (D n k) = _; rw [h4]; rfl
  | object C => show va_rf (R n k) = _; rw [h3]; rfl
  | array C => show va_rf (R n k) = _; rw [h3]; rfl
  | _ => show Value.int (I n k) = _; rw [h1]; rfl
end GC0
section GC
variable {E : GE} {l : Launch} {μ : GM} {Rm : Room} {Φ : List Frame → Array Value → State → State → Prop} {uc us pc : Nat} {ls : List (Nat × Value)} {st rest : List Value} {Z : GZ} {mc ms : Nat}
variable {I : Nat → Nat → Int32} {J : Nat → Nat → Int64} {R : Nat → Nat → Option Nat} {D : Nat → Nat → UInt64} {n : Nat}
theorem x_new {idx ci : Nat} (hd : decode μ.2.1 pc = .ok (.new idx, 3)) (hn : n < 1000) (ho : (g_ob n).1 = ci) (hc : ci < 8) (hl1 : Cond.classLink μ.1.cls idx (g_R ci) ∈ gw) (hl2 : Cond.instantiable (g_R ci) (g_N ci) ∈ gw) (hl3 : Cond.initialized (g_R ci) ∈ gw)
    (hz : g_zf I J R D n) (hRc : uc + 1 ≤ Rm.cells) (hRs : us + g_N ci ≤ Rm.slots) (k : g_Wp E l μ Rm Φ (uc + 1) (us + g_N ci) (pc + 3) ls (.ref n :: st) (I, J, R, D, n + 1, true)) : g_Wp E l μ Rm Φ uc us pc ls st (I, J, R, D, n, true) :=
  w_new hd rfl rfl hn ho hc hl1 hl2 hl3 (fun j hj => hz.val (g_okt_c hc hj) j) hRc hRs k
theorem x_newarr {c L : Nat} {i : Int32} {at9 : ArrayType} (hd : decode μ.2.1 pc = .ok (.newarray at9, 2)) (hn : n < 1000) (ho : g_ob n = (c, L)) (hc : 8 ≤ c) (hc2 : c ≤ 12) (hty : newarray.typeOf at9 = g_et c) (hl1 : Cond.arrayClass (g_et c) ∈ gw) (hi : i = nI L)
    (hz : g_zf I J R D n) (hRc : uc + 1 ≤ Rm.cells) (hRs : us + L ≤ Rm.slots) (k : g_Wp E l μ Rm Φ (uc + 1) (us + L) (pc + 2) ls (.ref n :: st) (I, J, R, D, n + 1, true)) : g_Wp E l μ Rm Φ uc us pc ls (.int i :: st) (I, J, R, D, n, true) :=
  w_newarr hd rfl rfl hn ho hc (by omega) hty hl1 hi (fun j _ => hz.val (by rcases (show c = 8 ∨ c = 9 ∨ c = 10 ∨ c = 11 ∨ c = 12 by omega) with rfl | rfl | rfl | rfl | rfl <;> rfl) j) hRc hRs k
theorem x_anewarr {idx c L : Nat} {i : Int32} {C : String} (hd : decode μ.2.1 pc = .ok (.anewarray idx, 3)) (hn : n < 1000) (ho : g_ob n = (c, L)) (hc : (c = 13 ∧ C = "HeapGames$Rule") ∨ (c = 14 ∧ C = "HeapGames$State")) (hl1 : Cond.classLink μ.1.cls idx C ∈ gw) (hi : i = nI L)
    (hL : L ≤ 100) (hz : g_zf I J R D n) (hRc : uc + 1 ≤ Rm.cells) (hRs : us + L ≤ Rm.slots) (k : g_Wp E l μ Rm Φ (uc + 1) (us + L) (pc + 3) ls (.ref n :: st) (I, J, R, D, n + 1, true)) : g_Wp E l μ Rm Φ uc us pc ls (.int i :: st) (I, J, R, D, n, true) :=
  w_anewarr hd rfl rfl hn ho hc hl1 hi hL (fun j _ => (hz n (Nat.le_refl _) j).2.2.1) hRc hRs k
theorem x_aast13 {o j a : Nat} {i : Int32} {ex : Bool} (hd : decode μ.2.1 pc = .ok (.aastore, 1)) (ho : (g_ob o).1 = 13) (hn : o < n) (hi : i = nI j) (hj : j < (g_ob o).2) (ha2 : (g_ob a).1 = 2) (hn2 : a < n) (k : g_Wp E l μ Rm Φ uc us (pc + 1) ls st (I, J, up2 R o j (some a), D, n, ex)) : g_Wp E l μ Rm Φ uc us pc ls (.ref a :: .int i :: .ref o :: st) (I, J, R, D, n, ex) := w_aast13 hd ho hn hi hj ha2 hn2 k
theorem x_aast14 {o j a : Nat} {i : Int32} {ex : Bool} (hd : decode μ.2.1 pc = .ok (.aastore, 1)) (ho : (g_ob o).1 = 14) (hn : o < n) (hi : i = nI j) (hj : j < (g_ob o).2) (ha2 : (g_ob a).1 = 4) (hn2 : a < n) (k : g_Wp E l μ Rm Φ uc us (pc + 1) ls st (I, J, up2 R o j (some a), D, n, ex)) : g_Wp E l μ Rm Φ uc us pc ls (.ref a :: .int i :: .ref o :: st) (I, J, R, D, n, ex) := w_aast14 hd ho hn hi hj ha2 hn2 k
end GC
section CX
variable (E : GE) (l : Launch)
variable {I : Nat → Nat → Int32} {J : Nat → Nat → Int64} {R : Nat → Nat → Option Nat} {D : Nat → Nat → UInt64} {o g : Nat}
def rX2 (R : Nat → Nat → Option Nat) (r : Nat) : Nat → Nat → Option Nat := up2 (up2 R r 3 (some (r + 1))) r 4 (some (r + 2))
set_option maxRecDepth 100000 in
theorem c_X4_init (ho : (g_ob o).1 = 4) (ho1 : g_ob (o + 1) = (8, 40)) (hz : g_zf I J R D (o + 1)) (hn : o < 998) : g_Ct E l mX4_init 1 20 1 40 [.ref o] (I, J, R, D, o + 1, true) (g_is none (I, J, up2 R o 5 (some (o + 1)), D, o + 2, true)) := by
  refine g_Ct.of (by decide +kernel) (lb rfl) ?_
  refine w_aload_n dX4_init_0 rfl ?_
  refine w_objInit dX4_init_1 lx_X4_3 (by decide) (lb rfl) ?_
  refine w_aload_n dX4_init_4 rfl ?_
  refine w_bipush (v := 40) dX4_init_5 (by decide) ?_
  refine x_newarr (c := 8) (L := 40) dX4_init_7 (by omega) ho1 (by decide) (by decide) rfl arrc_8 rfl hz (by decide) (by decide) ?_
  refine x_putr (ci := 4) (k := 5) dX4_init_9 ho (by decide) (by decide) (by omega) fl_X4_9 (Or.inr ⟨_, rfl⟩) (Or.inr ⟨rfl, rfl⟩) ?_
  refine w_vret dX4_init_12 rfl ⟨rfl, rfl⟩ (by decide) (by decide)
set_option maxRecDepth 100000 in
theorem c_X2_init (ho : (g_ob o).1 = 2) (ho1 : g_ob (o + 1) = (8, 301)) (ho2 : g_ob (o + 2) = (8, 301)) (hz : g_zf I J R D (o + 1)) (hn : o < 997) : g_Ct E l mX2_init 1 20 2 602 [.ref o] (I, J, R, D, o + 1, true) (g_is none (I, J, rX2 R o, D, o + 3, true)) := by
  refine g_Ct.of (by decide +kernel) (lb rfl) ?_
  refine w_aload_n dX2_init_0 rfl ?_
  refine w_objInit dX2_init_1 lx_X2_3 (by decide) (lb rfl) ?_
  refine w_aload_n dX2_init_4 rfl ?_
  refine w_sipush (v := 301) dX2_init_5 (by decide) ?_
  refine x_newarr (c := 8) (L := 301) dX2_init_8 (by omega) ho1 (by decide) (by decide) rfl arrc_8 rfl hz (by decide) (by decide) ?_
  refine x_putr (ci := 2) (k := 3) dX2_init_10 ho (by decide) (by decide) (by omega) fl_X2_9 (Or.inr ⟨_, rfl⟩) (Or.inr ⟨rfl, rfl⟩) ?_
  refine w_aload_n dX2_init_13 rfl ?_
  refine w_sipush (v := 301) dX2_init_14 (by decide) ?_
  refine x_newarr (c := 8) (L := 301) dX2_init_17 (by omega) ho2 (by decide) (by decide) rfl arrc_8 rfl ((hz.mono (by omega)).r (by omega)) (by decide) (by decide) ?_
  refine x_putr (ci := 2) (k := 4) dX2_init_19 ho (by decide) (by decide) (by omega) fl_X2_15 (Or.inr ⟨_, rfl⟩) (Or.inr ⟨rfl, rfl⟩) ?_
  refine w_vret dX2_init_22 rfl ⟨rfl, rfl⟩ (by decide) (by decide)
end CX
