/-! HeapGames$Game, HeapGames$History: their constructors -/
section CG
variable (E : GE) (l : Launch)
variable {I : Nat → Nat → Int32} {J : Nat → Nat → Int64} {R : Nat → Nat → Option Nat} {D : Nat → Nat → UInt64} {g : Nat}
theorem g_Wp.to {μ : GM} {Rm : Room} {Φ : List Frame → Array Value → State → State → Prop} {uc us pc uc2 us2 pc2 : Nat} {ls ls2 : List (Nat × Value)} {st : List Value} {w w2 : GW} (h : g_Wp E l μ Rm Φ uc us pc ls st w) (h1 : uc = uc2) (h2 : us = us2) (h3 : pc = pc2) (h4 : ls = ls2) (h5 : w = w2) : g_Wp E l μ Rm Φ uc2 us2 pc2 ls2 st w2 := by
  subst h1 h2 h3 h4 h5
  exact h
def rGk (R : Nat → Nat → Option Nat) (g : Nat) : Nat → Nat → Nat → Option Nat
  | 0 => up2 (up2 (up2 R g 0 (some (g + 1))) (g + 2) 5 (some (g + 2 + 1))) g 3 (some (g + 2))
  | k + 1 => up2 (rX2 (rGk R g k) (g + 4 + 3 * k)) (g + 1) k (some (g + 4 + 3 * k))
theorem rX2_z {r n : Nat} (h : g_zf I J R D n) (hr : r < n) : g_zf I J (rX2 R r) D n := (h.r hr).r hr
theorem rGk_z (h : g_zf I J R D (g + 1)) : ∀ k, g_zf I J (rGk R g k) D (g + 4 + 3 * k)
  | 0 => (((h.mono (by omega)).r (by omega)).r (by omega)).r (by omega)
  | k + 1 => (rX2_z ((rGk_z h k).mono (by omega)) (by omega)).r (by omega)
theorem rGk_a (k : Nat) : rGk R g k g 0 = some (g + 1) := by
  induction k with
  | zero => simp [rGk, up2]
  | succ k ih =>
    show up2 (up2 (up2 (rGk R g k) (g + 4 + 3 * k) 3 _) (g + 4 + 3 * k) 4 _) (g + 1) k _ g 0 = _
    rw [up2_n _ _ (by omega), up2_n _ _ (by omega), up2_n _ _ (by omega), ih]
def gK (g : Nat) : Prop := (∀ j, j < 22 → g_ob (g + j) = g_game.getD j (99, 0)) ∧ g < 900
theorem gK.ru (h : gK g) {k : Nat} (hk : k < 6) : g_ob (g + 4 + 3 * k) = (2, 5) ∧ g_ob (g + 4 + 3 * k + 1) = (8, 301) ∧ g_ob (g + 4 + 3 * k + 2) = (8, 301) := by
  refine ⟨?_, ?_, ?_⟩
  · rw [show g + 4 + 3 * k = g + (4 + 3 * k) by omega, h.1 _ (by omega)]
    rcases (show k = 0 ∨ k = 1 ∨ k = 2 ∨ k = 3 ∨ k = 4 ∨ k = 5 by omega) with rfl | rfl | rfl | rfl | rfl | rfl <;> rfl
  · rw [show g + 4 + 3 * k + 1 = g + (4 + 3 * k + 1) by omega, h.1 _ (by omega)]
    rcases (show k = 0 ∨ k = 1 ∨ k = 2 ∨ k = 3 ∨ k = 4 ∨ k = 5 by omega) with rfl | rfl | rfl | rfl | rfl | rfl <;> rfl
  · rw [show g + 4 + 3 * k + 2 = g + (4 + 3 * k + 2) by omega, h.1 _ (by omega)]
    rcases (show k = 0 ∨ k = 1 ∨ k = 2 ∨ k = 3 ∨ k = 4 ∨ k = 5 by omega) with rfl | rfl | rfl | rfl | rfl | rfl <;> rfl
set_option maxRecDepth 100000 in
theorem c_X0_init (hg : gK g) (hz : g_zf I J R D (g + 1)) : g_Ct E l mX0_init 2 40 21 3694 [.ref g] (I, J, R, D, g + 1, true) (g_is none (I, J, rGk R g 6, D, g + 22, true)) := by
  refine g_Ct.of (by decide +kernel) (lb rfl) ?_
  have hg9 := hg.2
  have o0 : (g_ob g).1 = 0 := by have := hg.1 0 (by omega); rw [Nat.add_zero] at this; rw [this]; rfl
  have o1 : g_ob (g + 1) = (13, 6) := hg.1 1 (by omega)
  have o2 : g_ob (g + 2) = (4, 6) := hg.1 2 (by omega)
  have o3 : g_ob (g + 2 + 1) = (8, 40) := hg.1 3 (by omega)
  have loop : ∀ d k, k + d = 6 → g_Wp E l mX0_init { frames := 2, cells := 21, slots := 3694, locals := 40 } (g_Fin E (g_is none (I, J, rGk R g 6, D, g + 22, true)) 21 3694) (3 + 3 * k) (52 + 607 * k) 26 [(1, .int (nI k)), (0, .ref g)] [] (I, J, rGk R g k, D, g + 4 + 3 * k, true) := by
    intro d
    induction d with
    | zero =>
      intro k hk
      have hk6 : k = 6 := by omega
      subst hk6
      refine w_iload_n dX0_init_26 rfl ?_
      refine w_bipush (v := 6) dX0_init_27 (by decide) ?_
      refine w_icmp_ge (tgt := 51) dX0_init_29 (by decide) (fun c_29 => ?_) (fun c_29 => absurd ((by decide)) c_29)
      refine w_vret dX0_init_51 rfl ⟨rfl, rfl⟩ (by decide) (by decide)
    | succ d ih =>
      intro k hk
      have hk6 : k < 6 := by omega
      obtain ⟨q1, q2, q3⟩ := hg.ru hk6
      have hzk := rGk_z hz k
      have nx := ih (k + 1) (by omega)
      rw [show 3 + 3 * (k + 1) = 3 + 3 * k + 1 + 2 by omega, show 52 + 607 * (k + 1) = 52 + 607 * k + 5 + 602 by omega, show g + 4 + 3 * (k + 1) = g + 4 + 3 * k + 3 by omega] at nx
      refine w_iload_n dX0_init_26 rfl ?_
      refine w_bipush (v := 6) dX0_init_27 (by decide) ?_
      refine w_icmp_ge (tgt := 51) dX0_init_29 (by decide) (fun c_29 => absurd c_29 ((fun q => absurd (n_le (a := 6) (b := k) q) (by omega)))) (fun c_29 => ?_)
      refine w_aload_n dX0_init_32 rfl ?_
      refine x_getr (ci := 0) (k := 0) dX0_init_33 o0 (by decide) (by decide) (by omega) fl_X0_11 (Or.inr ⟨_, rfl⟩) (rGk_a k) ?_
      refine w_iload_n dX0_init_36 rfl ?_
      refine x_new (ci := 2) dX0_init_37 (by omega) (by rw [q1]) (by decide) cl_X0_9 inst_2 init_2 hzk (show 3 + 3 * k + 1 ≤ 21 by omega) (show 52 + 607 * k + 5 ≤ 3694 by omega) ?_
      refine w_dup dX0_init_40 rfl ?_
      refine z_callIN dX0_init_41 lk_X0_24 [] rfl (c_X2_init E l (I := I) (J := J) (R := rGk R g k) (D := D) (by rw [q1]) q2 q3 (hzk.mono (by omega)) (by omega)) rfl ⟨⟨by decide, by decide⟩, (show 3 + 3 * k + 1 + 2 ≤ 21 by omega), (show 52 + 607 * k + 5 + 602 ≤ 3694 by omega)⟩ (lb rfl) ?_
      refine x_aast13 (j := k) dX0_init_44 (by rw [o1]) (by omega) rfl (by rw [o1]; exact hk6) (by rw [q1]) (by omega) ?_
      refine w_iinc (v := nI (k + 1)) dX0_init_45 rfl (nI_inc _) (by decide) rfl ?_
      refine w_goto (tgt := 26) dX0_init_48 (by decide) ?_
      exact g_Wp.to E l nx rfl (by rw [show g_N 2 = 5 from rfl]) rfl rfl rfl
  have l0 := loop 6 0 rfl
  have z1 : g_zf I J (up2 R g 0 (some (g + 1))) D (g + 2) := (hz.mono (by omega)).r (by omega)
  refine w_aload_n dX0_init_0 rfl ?_
  refine w_objInit dX0_init_1 lx_X0_3 (by decide) (lb rfl) ?_
  refine w_aload_n dX0_init_4 rfl ?_
  refine w_bipush (v := 6) dX0_init_5 (by decide) ?_
  refine x_anewarr (c := 13) (L := 6) dX0_init_7 (by omega) o1 (Or.inl ⟨rfl, rfl⟩) cl_X0_9 rfl (by decide) hz (by decide) (by decide) ?_
  refine x_putr (ci := 0) (k := 0) dX0_init_10 o0 (by decide) (by decide) (by omega) fl_X0_11 (Or.inr ⟨_, rfl⟩) (Or.inr ⟨rfl, rfl⟩) ?_
  refine w_aload_n dX0_init_13 rfl ?_
  refine x_new (ci := 4) dX0_init_14 (by omega) (by rw [o2]) (by decide) cl_X0_17 inst_4 init_4 z1 (by decide) (by decide) ?_
  refine w_dup dX0_init_17 rfl ?_
  refine z_callIN dX0_init_18 lk_X0_19 [] rfl (c_X4_init E l (by rw [o2]) o3 (z1.mono (by omega)) (by omega)) rfl ⟨⟨by decide, by decide⟩, by decide, by decide⟩ (lb rfl) ?_
  refine x_putr (ci := 0) (k := 3) dX0_init_21 o0 (by decide) (by decide) (by omega) fl_X0_20 (Or.inl ⟨_, rfl⟩) (Or.inr ⟨rfl, rfl⟩) ?_
  refine w_iconst (v := 0) dX0_init_24 (by decide) ?_
  refine w_istore_n dX0_init_25 (by decide) rfl ?_
  exact g_Wp.to E l l0 rfl (by decide) (by decide) rfl rfl
end CG
