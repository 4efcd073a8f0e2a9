/-! HeapGames: heap, size, what out of range; at the start -/
theorem oorI {w : Int32} {n : Nat} (h : w < 0 ∨ ¬ w < nI n) (hn : n < 2 ^ 31) : w.toInt < 0 ∨ (n : Int) - 1 < w.toInt := by
  rw [Int32.lt_iff_toInt_lt, Int32.lt_iff_toInt_lt, nI_toInt hn] at h
  have h3 : (0 : Int32).toInt = 0 := rfl
  rw [h3] at h
  omega
section GO
variable (E : GE) (l : Launch)
variable {I : Nat → Nat → Int32} {J : Nat → Nat → Int64} {R : Nat → Nat → Option Nat} {D : Nat → Nat → UInt64} {N : Nat} {ex : Bool} {sw : Bool} {A : AS} {n : Nat}
set_option maxRecDepth 100000 in
theorem c_heap_x2 (hl : lk R N sw) (h : rC I J sw A n) {k : Nat} (hk : k < A.st.hs.length) {w : Int32} (hw : w < 0 ∨ ¬ w < nI 4) : g_Ct E l mX6_heap 7 111 1 6 [.ref 0, .int (nI k), .int w] (I, J, R, D, N, ex) (g_ths "java/lang/IllegalArgumentException" (I, J, R, D, N, false)) := by
  refine g_Ct.of (by decide +kernel) (lb rfl) ?_
  have hN := hl.2.2.2.2.2.2.2.2.2.2.2.2.2.2.2.2
  have hok := h.2.2.2.2.1
  have h4 := hok.1
  refine w_aload_n dX6_heap_0 rfl ?_
  refine w_iload_n dX6_heap_1 rfl ?_
  refine z_callV dX6_heap_2 lk_X6_171 [.int (nI k)] rfl (c_requireHeap E l hl h hk) (g_recv.obj (ci := 6) rfl (by decide) (show 0 < N by omega)) rfl ⟨⟨by decide, by decide⟩, by decide, by decide⟩ (lb rfl) ?_
  refine w_aload_n dX6_heap_5 rfl ?_
  refine w_iload_n dX6_heap_6 rfl ?_
  refine y_callV dX6_heap_7 lk_X6_174 [.int (nI k)] rfl (c_countersOf E l hl h (show k < 4 by omega)) (g_recv.obj (ci := 6) rfl (by decide) (show 0 < N by omega)) rfl ⟨⟨by decide, by decide⟩, by decide, by decide⟩ (lb rfl) ?_
  refine w_istore_n dX6_heap_10 (by decide) rfl ?_
  refine w_iload_n dX6_heap_11 rfl ?_
  · refine w_tblOut (tgt := 87) dX6_heap_12 (oorI hw (by decide)) (by decide) ?_
    refine w_throw (X := "java/lang/IllegalArgumentException") (tx := "what is out of range") rfl rfl (by decide +kernel) (by decide +kernel) dX6_heap_87 dX6_heap_90 dX6_heap_91 dX6_heap_93 dX6_heap_96 (by decide) (lb rfl) (by decide) (by decide) (by decide) (by decide) ⟨rfl, rfl⟩
set_option maxRecDepth 100000 in
theorem c_size_x (hl : lk R N sw) {w : Int32} (hw : w < 0 ∨ ¬ w < nI 10) : g_Ct E l mX6_size 6 132 1 6 [.ref 0, .int w] (I, J, R, D, N, ex) (g_ths "java/lang/IllegalArgumentException" (I, J, R, D, N, false)) := by
  refine g_Ct.of (by decide +kernel) (lb rfl) ?_
  have hN := hl.2.2.2.2.2.2.2.2.2.2.2.2.2.2.2.2
  have hg := hl.1
  have hgm := gm_b sw
  refine w_aload_n dX6_size_0 rfl ?_
  refine x_getr (ci := 6) (k := 0) (a := gm sw) dX6_size_1 rfl (by decide) (by decide) (by omega) fl_X6_12 (Or.inl ⟨_, rfl⟩) hl.2.2.2.2.1 ?_
  refine x_getr (ci := 0) (k := 3) (a := gm sw + 2) dX6_size_4 hg.1 (by decide) (by decide) (by omega) fl_X6_85 (Or.inl ⟨_, rfl⟩) hg.2.2.2.2.1 ?_
  refine w_astore_n dX6_size_7 (by decide) rfl ?_
  refine w_iload_n dX6_size_8 rfl ?_
  · refine w_tblOut (tgt := 137) dX6_size_9 (oorI hw (by decide)) (by decide) ?_
    refine w_throw (X := "java/lang/IllegalArgumentException") (tx := "what is out of range") rfl rfl (by decide +kernel) (by decide +kernel) dX6_size_137 dX6_size_140 dX6_size_141 dX6_size_143 dX6_size_146 (by decide) (lb rfl) (by decide) (by decide) (by decide) (by decide) ⟨rfl, rfl⟩
end GO
def R0 : Nat → Nat → Option Nat := r7 (rTop (fun _ _ => none)) 20
def I0 : Nat → Nat → Int32 := iTop (fun _ _ => 0)
def J0 : Nat → Nat → Int64 := fun _ _ => 0
def ru0 : Ru := (fun _ => 0, fun _ _ => false, 0)
def A0 : AS := (ru0, 0, St.nil, [], fun _ => none, fun _ => 0, 0)
theorem clS_z : clS 0 = fun _ => false := by
  funext a
  unfold clS
  simp
theorem isS_d {s : Nat} (h : (g_ob s).1 = 4 ∧ s + 1 < 102 ∧ g_ob (s + 1) = (8, 40)) (h2 : R0 s 5 = some (s + 1)) : isS R0 102 s := ⟨h.1, h.2.1, h.2.2, h2⟩
theorem isR_d {s : Nat} (h : (g_ob s).1 = 2 ∧ s + 2 < 102 ∧ g_ob (s + 1) = (8, 301) ∧ g_ob (s + 2) = (8, 301)) (h2 : R0 s 3 = some (s + 1)) (h3 : R0 s 4 = some (s + 2)) : isR R0 102 s := ⟨h.1, h.2.1, h.2.2.1, h.2.2.2, h2, h3⟩
theorem g6_1 : ∀ k, k < 6 → R0 (1 + 1) k = some (1 + 4 + 3 * k) := by decide +kernel
theorem g6_2 : ∀ k, k < 6 → (g_ob (1 + 4 + 3 * k)).1 = 2 ∧ 1 + 4 + 3 * k + 2 < 102 ∧ g_ob (1 + 4 + 3 * k + 1) = (8, 301) ∧ g_ob (1 + 4 + 3 * k + 2) = (8, 301) := by decide +kernel
theorem g6_3 : ∀ k, k < 6 → R0 (1 + 4 + 3 * k) 3 = some (1 + 4 + 3 * k + 1) := by decide +kernel
theorem g6_4 : ∀ k, k < 6 → R0 (1 + 4 + 3 * k) 4 = some (1 + 4 + 3 * k + 2) := by decide +kernel
theorem g7_1 : ∀ k, k < 6 → R0 (25 + 1) k = some (25 + 4 + 3 * k) := by decide +kernel
theorem g7_2 : ∀ k, k < 6 → (g_ob (25 + 4 + 3 * k)).1 = 2 ∧ 25 + 4 + 3 * k + 2 < 102 ∧ g_ob (25 + 4 + 3 * k + 1) = (8, 301) ∧ g_ob (25 + 4 + 3 * k + 2) = (8, 301) := by decide +kernel
theorem g7_3 : ∀ k, k < 6 → R0 (25 + 4 + 3 * k) 3 = some (25 + 4 + 3 * k + 1) := by decide +kernel
theorem g7_4 : ∀ k, k < 6 → R0 (25 + 4 + 3 * k) 4 = some (25 + 4 + 3 * k + 2) := by decide +kernel
theorem h10_1 : ∀ i, i < 10 → R0 52 i = some (53 + 2 * i) := by decide +kernel
theorem h10_2 : ∀ s, s < 10 → (g_ob (53 + 2 * s)).1 = 4 ∧ 53 + 2 * s + 1 < 102 ∧ g_ob (53 + 2 * s + 1) = (8, 40) := by decide +kernel
theorem h10_3 : ∀ s, s < 10 → R0 (53 + 2 * s) 5 = some (53 + 2 * s + 1) := by decide +kernel
theorem isG_1 : isG R0 102 1 := ⟨by decide +kernel, by decide, by decide +kernel, by decide +kernel, by decide +kernel, isS_d (by decide +kernel) (by decide +kernel), fun k hk => ⟨g6_1 k hk, isR_d (g6_2 k hk) (g6_3 k hk) (g6_4 k hk)⟩⟩
theorem isG_25 : isG R0 102 25 := ⟨by decide +kernel, by decide, by decide +kernel, by decide +kernel, by decide +kernel, isS_d (by decide +kernel) (by decide +kernel), fun k hk => ⟨g7_1 k hk, isR_d (g7_2 k hk) (g7_3 k hk) (g7_4 k hk)⟩⟩
theorem isV_0 : isV R0 102 := ⟨by decide, by decide +kernel, by decide +kernel, by decide +kernel⟩
theorem isH_0 : isH R0 102 := ⟨by decide, by decide +kernel, fun i hi => ⟨h10_1 i hi, isS_d (h10_2 i hi) (h10_3 i hi)⟩⟩
theorem lk_0 : lk R0 102 false := ⟨isG_1, isG_25, isV_0, isH_0, by decide +kernel, by decide +kernel, by decide +kernel, by decide +kernel, by decide +kernel, by decide +kernel, by decide +kernel, by decide +kernel, by decide +kernel, by decide +kernel, isS_d (by decide +kernel) (by decide +kernel), isS_d (by decide +kernel) (by decide +kernel), by decide⟩
theorem lkM_0 : lkM R0 102 := by
  unfold lkM
  decide +kernel
theorem I0_n {o k : Nat} (h1 : o ≠ 47) : I0 o k = 0 := by
  show up2 (up2 (up2 (up2 (up2 (fun _ _ => (0 : Int32)) 23 1 0) 47 4 (-1)) 47 5 0) 51 1 0) 51 2 0 o k = 0
  simp [up2, h1]
theorem stOK_0 : stOK 0 St.nil := ⟨by decide, fun x hx => (List.not_mem_nil hx).elim, by decide, by decide, fun x hx => (List.not_mem_nil hx).elim⟩
theorem ruOK_0 : ruOK ru0 := by
  unfold ruOK
  decide +kernel
theorem stC_0 {o : Nat} (h : o ≠ 47) : stC I0 o St.nil := ⟨I0_n h, I0_n h, I0_n h, I0_n h, I0_n h, fun i hi => absurd hi (Nat.not_lt_zero i)⟩
theorem rC_0 : rC I0 J0 false A0 0 := by
  refine ⟨⟨I0_n (by decide), by decide⟩, ruOK_0, ⟨I0_n (by decide), fun k hk => ⟨I0_n (by show 1 + 4 + 3 * k ≠ 47; omega), clS_z⟩⟩, fun k hk => absurd hk (Nat.not_lt_zero k), stOK_0, stC_0 (by decide), fun k hk => ⟨⟨0, by decide, I0_n (by show 25 + 4 + 3 * k ≠ 47; omega)⟩, ?_⟩, ?_, ⟨by decide, I0_n (by decide), 0, by decide, I0_n (by decide), fun i hi => absurd hi (Nat.not_lt_zero i)⟩, fun k hk => ⟨I0_n (by decide), fun s hs => by cases hs⟩, ⟨I0_n (by decide), by decide, fun i hi => absurd hi (Nat.not_lt_zero i)⟩⟩
  · show (amt (clS 0) 60).length ≤ 8
    rw [clS_z]
    decide +kernel
  · exact ⟨0, fun _ => 0, Nat.le_refl 0, by decide +kernel, fun p hp => ⟨I0_n (by decide), by show 0 < (0 + 1) * 8192; decide⟩, Or.inl (by decide +kernel)⟩
theorem slM_0 {o b : Nat} (h : o ≠ 47) : slM I0 o b St.nil := ⟨I0_n h, fun i hi => absurd hi (Nat.not_lt_zero i), I0_n h, I0_n h, I0_n h, fun i hi => absurd hi (Nat.not_lt_zero i)⟩
theorem rM_0 : rM I0 A0 0 := by
  refine ⟨slM_0 (by decide), ⟨by decide, I0_n (by decide), fun i hi => absurd hi (Nat.not_lt_zero i)⟩, fun k hk => ⟨I0_n (by decide), fun s hs => by cases hs⟩, ⟨I0_n (by decide), fun k hk => absurd hk (Nat.not_lt_zero k), I0_n (by decide)⟩, ⟨fun k hk => absurd hk (Nat.not_lt_zero k), fun k hk => absurd hk (Nat.not_lt_zero k)⟩, ⟨I0_n (by decide), fun i hi => absurd hi (Nat.not_lt_zero i)⟩, ⟨0, I0_n (by decide), Nat.le_refl _, fun v hv => ⟨0, Nat.le_refl _, I0_n (by decide)⟩⟩, Or.inl (I0_n (by decide))⟩
