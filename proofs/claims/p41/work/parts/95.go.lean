/-! at the start -/
def R0 : Nat → Nat → Option Nat := rTop (fun _ _ => none)
def I0 : Nat → Nat → Int32 := iTop (fun _ _ => 0)
def J0 : Nat → Nat → Int64 := fun _ _ => 0
def ru0 : Ru := (fun _ => 0, fun _ _ => false, 0)
def A0 : AS := (ru0, 0, St.nil, [], fun _ => none, fun _ => 0, 0)
theorem clS_z : clS 0 = fun _ => false := by
  funext a
  unfold clS
  simp
theorem isS_d {s : Nat} (h : (g_ob s).1 = 4 ∧ s + 1 < 79 ∧ g_ob (s + 1) = (8, 40)) (h2 : R0 s 5 = some (s + 1)) : isS R0 79 s := ⟨h.1, h.2.1, h.2.2, h2⟩
theorem isR_d {s : Nat} (h : (g_ob s).1 = 2 ∧ s + 2 < 79 ∧ g_ob (s + 1) = (8, 301) ∧ g_ob (s + 2) = (8, 301)) (h2 : R0 s 3 = some (s + 1)) (h3 : R0 s 4 = some (s + 2)) : isR R0 79 s := ⟨h.1, h.2.1, h.2.2.1, h.2.2.2, h2, h3⟩
theorem g6_1 : ∀ k, k < 6 → R0 (1 + 1) k = some (1 + 4 + 3 * k) := by decide +kernel
theorem g6_2 : ∀ k, k < 6 → (g_ob (1 + 4 + 3 * k)).1 = 2 ∧ 1 + 4 + 3 * k + 2 < 79 ∧ g_ob (1 + 4 + 3 * k + 1) = (8, 301) ∧ g_ob (1 + 4 + 3 * k + 2) = (8, 301) := by decide +kernel
theorem g6_3 : ∀ k, k < 6 → R0 (1 + 4 + 3 * k) 3 = some (1 + 4 + 3 * k + 1) := by decide +kernel
theorem g6_4 : ∀ k, k < 6 → R0 (1 + 4 + 3 * k) 4 = some (1 + 4 + 3 * k + 2) := by decide +kernel
theorem g7_1 : ∀ k, k < 6 → R0 (25 + 1) k = some (25 + 4 + 3 * k) := by decide +kernel
theorem g7_2 : ∀ k, k < 6 → (g_ob (25 + 4 + 3 * k)).1 = 2 ∧ 25 + 4 + 3 * k + 2 < 79 ∧ g_ob (25 + 4 + 3 * k + 1) = (8, 301) ∧ g_ob (25 + 4 + 3 * k + 2) = (8, 301) := by decide +kernel
theorem g7_3 : ∀ k, k < 6 → R0 (25 + 4 + 3 * k) 3 = some (25 + 4 + 3 * k + 1) := by decide +kernel
theorem g7_4 : ∀ k, k < 6 → R0 (25 + 4 + 3 * k) 4 = some (25 + 4 + 3 * k + 2) := by decide +kernel
theorem h10_1 : ∀ i, i < 10 → R0 52 i = some (53 + 2 * i) := by decide +kernel
theorem h10_2 : ∀ s, s < 10 → (g_ob (53 + 2 * s)).1 = 4 ∧ 53 + 2 * s + 1 < 79 ∧ g_ob (53 + 2 * s + 1) = (8, 40) := by decide +kernel
theorem h10_3 : ∀ s, s < 10 → R0 (53 + 2 * s) 5 = some (53 + 2 * s + 1) := by decide +kernel
theorem isG_1 : isG R0 79 1 := ⟨by decide +kernel, by decide, by decide +kernel, by decide +kernel, by decide +kernel, isS_d (by decide +kernel) (by decide +kernel), fun k hk => ⟨g6_1 k hk, isR_d (g6_2 k hk) (g6_3 k hk) (g6_4 k hk)⟩⟩
theorem isG_25 : isG R0 79 25 := ⟨by decide +kernel, by decide, by decide +kernel, by decide +kernel, by decide +kernel, isS_d (by decide +kernel) (by decide +kernel), fun k hk => ⟨g7_1 k hk, isR_d (g7_2 k hk) (g7_3 k hk) (g7_4 k hk)⟩⟩
theorem isV_0 : isV R0 79 := ⟨by decide, by decide +kernel, by decide +kernel, by decide +kernel⟩
theorem isH_0 : isH R0 79 := ⟨by decide, by decide +kernel, fun i hi => ⟨h10_1 i hi, isS_d (h10_2 i hi) (h10_3 i hi)⟩⟩
theorem lk_0 : lk R0 79 false := ⟨isG_1, isG_25, isV_0, isH_0, by decide +kernel, by decide +kernel, by decide +kernel, by decide +kernel, by decide +kernel, by decide +kernel, by decide +kernel, by decide +kernel, by decide +kernel, by decide +kernel, isS_d (by decide +kernel) (by decide +kernel), isS_d (by decide +kernel) (by decide +kernel), by decide⟩
theorem I0_n {o k : Nat} (h1 : o ≠ 47) : I0 o k = 0 := by
  show up2 (up2 (up2 (up2 (up2 (fun _ _ => (0 : Int32)) 23 1 0) 47 4 (-1)) 47 5 0) 51 1 0) 51 2 0 o k = 0
  simp [up2, h1]
theorem stOK_0 : stOK 0 St.nil := ⟨by decide, fun x hx => (List.not_mem_nil hx).elim, by decide, by decide, fun x hx => (List.not_mem_nil hx).elim⟩
theorem ruOK_0 : ruOK ru0 := by
  unfold ruOK
  decide +kernel
theorem stC_0 {o : Nat} (h : o ≠ 47) : stC I0 o St.nil := ⟨I0_n h, I0_n h, I0_n h, I0_n h, I0_n h, fun i hi => absurd hi (Nat.not_lt_zero i)⟩
theorem rC_0 : rC I0 J0 false A0 0 := by
  refine ⟨⟨I0_n (by decide), by decide⟩, ruOK_0, ⟨I0_n (by decide), fun k hk => ⟨I0_n (by show 1 + 4 + 3 * k ≠ 47; omega), clS_z⟩⟩, fun k hk => absurd hk (Nat.not_lt_zero k), stOK_0, stC_0 (by decide), fun k hk => ⟨⟨0, by decide, I0_n (by show 25 + 4 + 3 * k ≠ 47; omega)⟩, ?_⟩, ?_, ⟨by decide, I0_n (by decide), 0, by decide, I0_n (by decide), fun i hi => absurd hi (Nat.not_lt_zero i)⟩, fun k hk => ⟨I0_n (by decide), fun s hs => by cases hs⟩, ⟨I0_n (by decide), by decide, fun i hi => absurd hi (Nat.not_lt_zero i)⟩⟩
  · show (amt (clS 0) 60).length ≤ 8
    rw [clS_z]
    decide +kernel
  · exact ⟨0, fun _ => 0, Nat.le_refl 0, by decide +kernel, fun p hp => ⟨I0_n (by decide), by show 0 < (0 + 1) * 8192; decide⟩, Or.inl (by decide +kernel)⟩
