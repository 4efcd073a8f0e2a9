/-! HeapGames$History, HeapGames$TextReader, HeapGames$Solver: their constructors -/
section CH
variable (E : GE) (l : Launch)
variable {I : Nat → Nat → Int32} {J : Nat → Nat → Int64} {R : Nat → Nat → Option Nat} {D : Nat → Nat → UInt64} {g : Nat}
/-- states one by one in the array a, the first at b -/
def rSt (R : Nat → Nat → Option Nat) (a b : Nat) : Nat → Nat → Nat → Option Nat
  | 0 => R
  | k + 1 => up2 (up2 (rSt R a b k) (b + 2 * k) 5 (some (b + 2 * k + 1))) a k (some (b + 2 * k))
theorem rSt_z {a b : Nat} (hab : a < b) (h : g_zf I J R D b) : ∀ k, g_zf I J (rSt R a b k) D (b + 2 * k)
  | 0 => h
  | k + 1 => (((rSt_z hab h k).mono (by omega)).r (by omega)).r (by omega)
theorem rSt_a {a b q j : Nat} (hq : q ≠ a) (hb : q < b) : ∀ k, rSt R a b k q j = R q j
  | 0 => rfl
  | k + 1 => by
    show up2 (up2 (rSt R a b k) (b + 2 * k) 5 _) a k _ q j = _
    rw [up2_n _ _ (by omega), up2_n _ _ (by omega), rSt_a hq hb k]
theorem ob_h : ∀ k, k < 10 → g_ob (53 + 2 * k) = (4, 6) ∧ g_ob (53 + 2 * k + 1) = (8, 40) := by decide +kernel
theorem ob_s : ∀ k, k < 2 → g_ob (75 + 2 * k) = (4, 6) ∧ g_ob (75 + 2 * k + 1) = (8, 40) := by decide +kernel
def iHi (I : Nat → Nat → Int32) : Nat → Nat → Int32 := up2 (up2 I 51 1 0) 51 2 0
def rHi (R : Nat → Nat → Option Nat) : Nat → Nat → Option Nat := rSt (up2 R 51 0 (some 52)) 52 53 10
set_option maxRecDepth 100000 in
theorem c_X1_init (hz : g_zf I J R D 52) : g_Ct E l mX1_init 2 40 21 470 [.ref 51] (I, J, R, D, 52, true) (g_is none (iHi I, J, rHi R, D, 73, true)) := by
  refine g_Ct.of (by decide +kernel) (lb rfl) ?_
  have z1 : g_zf (iHi I) J (up2 R 51 0 (some 52)) D 53 := ((((hz.mono (by omega)).r (by omega)).i (by omega)).i (by omega))
  have loop : ∀ d k, k + d = 10 → g_Wp E l mX1_init { frames := 2, cells := 21, slots := 470, locals := 40 } (g_Fin E (g_is none (iHi I, J, rHi R, D, 73, true)) 21 470) (1 + 2 * k) (10 + 46 * k) 25 [(1, .int (nI k)), (0, .ref 51)] [] (iHi I, J, rSt (up2 R 51 0 (some 52)) 52 53 k, D, 53 + 2 * k, true) := by
    intro d
    induction d with
    | zero =>
      intro k hk
      have hk6 : k = 10 := by omega
      subst hk6
      refine w_iload_n dX1_init_25 rfl ?_
      refine w_bipush (v := 10) dX1_init_26 (by decide) ?_
      refine w_icmp_ge (tgt := 50) dX1_init_28 (by decide) (fun c_28 => ?_) (fun c_28 => absurd ((by decide)) c_28)
      refine w_vret dX1_init_50 rfl ⟨rfl, rfl⟩ (by decide) (by decide)
    | succ d ih =>
      intro k hk
      have hk6 : k < 10 := by omega
      obtain ⟨q1, q2⟩ := ob_h k hk6
      have hzk := rSt_z (a := 52) (b := 53) (by decide) z1 k
      have nx := ih (k + 1) (by omega)
      rw [show 1 + 2 * (k + 1) = 1 + 2 * k + 1 + 1 by omega, show 10 + 46 * (k + 1) = 10 + 46 * k + 6 + 40 by omega, show 53 + 2 * (k + 1) = 53 + 2 * k + 2 by omega] at nx
      refine w_iload_n dX1_init_25 rfl ?_
      refine w_bipush (v := 10) dX1_init_26 (by decide) ?_
      refine w_icmp_ge (tgt := 50) dX1_init_28 (by decide) (fun c_28 => absurd c_28 ((fun q => absurd (n_le (a := 10) (b := k) q) (by omega)))) (fun c_28 => ?_)
      refine w_aload_n dX1_init_31 rfl ?_
      refine x_getr (ci := 1) (k := 0) dX1_init_32 rfl (by decide) (by decide) (by omega) fl_X1_11 (Or.inr ⟨_, rfl⟩) ((rSt_a (by decide) (by decide) k).trans rfl) ?_
      refine w_iload_n dX1_init_35 rfl ?_
      refine x_new (ci := 4) dX1_init_36 (by omega) (by rw [q1]) (by decide) cl_X1_9 inst_4 init_4 hzk (show 1 + 2 * k + 1 ≤ 21 by omega) (show 10 + 46 * k + 6 ≤ 470 by omega) ?_
      refine w_dup dX1_init_39 rfl ?_
      refine z_callIN dX1_init_40 lk_X1_24 [] rfl (c_X4_init E l (I := iHi I) (J := J) (D := D) (by rw [q1]) q2 (hzk.mono (by omega)) (by omega)) rfl ⟨⟨by decide, by decide⟩, (show 1 + 2 * k + 1 + 1 ≤ 21 by omega), (show 10 + 46 * k + 6 + 40 ≤ 470 by omega)⟩ (lb rfl) ?_
      refine x_aast14 (j := k) dX1_init_43 rfl (by omega) rfl hk6 (by rw [q1]) (by omega) ?_
      refine w_iinc (v := nI (k + 1)) dX1_init_44 rfl (nI_inc _) (by decide) rfl ?_
      refine w_goto (tgt := 25) dX1_init_47 (by decide) ?_
      exact g_Wp.to E l nx rfl (by rw [show g_N 4 = 6 from rfl]) rfl rfl rfl
  have l0 := loop 10 0 rfl
  refine w_aload_n dX1_init_0 rfl ?_
  refine w_objInit dX1_init_1 lx_X1_3 (by decide) (lb rfl) ?_
  refine w_aload_n dX1_init_4 rfl ?_
  refine w_bipush (v := 10) dX1_init_5 (by decide) ?_
  refine x_anewarr (c := 14) (L := 10) dX1_init_7 (by decide) rfl (Or.inr ⟨rfl, rfl⟩) cl_X1_9 rfl (by decide) hz (by decide) (by decide) ?_
  refine x_putr (ci := 1) (k := 0) dX1_init_10 rfl (by decide) (by decide) (by decide) fl_X1_11 (Or.inr ⟨_, rfl⟩) (Or.inr ⟨rfl, rfl⟩) ?_
  refine w_aload_n dX1_init_13 rfl ?_
  refine w_iconst (v := 0) dX1_init_14 (by decide) ?_
  refine x_puti (ci := 1) (k := 1) dX1_init_15 rfl (by decide) (by decide) (by decide) fl_X1_17 rfl rfl ?_
  refine w_aload_n dX1_init_18 rfl ?_
  refine w_iconst (v := 0) dX1_init_19 (by decide) ?_
  refine x_puti (ci := 1) (k := 2) dX1_init_20 rfl (by decide) (by decide) (by decide) fl_X1_21 rfl rfl ?_
  refine w_iconst (v := 0) dX1_init_23 (by decide) ?_
  refine w_istore_n dX1_init_24 (by decide) rfl ?_
  exact g_Wp.to E l l0 rfl (by decide) (by decide) rfl rfl
def iRd (I : Nat → Nat → Int32) : Nat → Nat → Int32 := up2 I 23 1 0
def rRd (R : Nat → Nat → Option Nat) : Nat → Nat → Option Nat := up2 (rGk (up2 R 23 0 (some 24)) 25 6) 23 6 (some 25)
theorem gK_1 : gK 1 := ⟨by decide +kernel, by decide⟩
theorem gK_25 : gK 25 := ⟨by decide +kernel, by decide⟩
set_option maxRecDepth 100000 in
theorem c_X5_init (hz : g_zf I J R D 24) : g_Ct E l mX5_init 3 61 23 4098 [.ref 23] (I, J, R, D, 24, true) (g_is none (iRd I, J, rRd R, D, 47, true)) := by
  refine g_Ct.of (by decide +kernel) (lb rfl) ?_
  have z1 : g_zf (iRd I) J (up2 R 23 0 (some 24)) D 25 := ((hz.mono (by omega)).r (by omega)).i (by omega)
  refine w_aload_n dX5_init_0 rfl ?_
  refine w_objInit dX5_init_1 lx_X5_3 (by decide) (lb rfl) ?_
  refine w_aload_n dX5_init_4 rfl ?_
  refine w_sipush (v := 400) dX5_init_5 (by decide) ?_
  refine x_newarr (c := 11) (L := 400) dX5_init_8 (by decide) rfl (by decide) (by decide) rfl arrc_11 rfl hz (by decide) (by decide) ?_
  refine x_putr (ci := 5) (k := 0) dX5_init_10 rfl (by decide) (by decide) (by decide) fl_X5_9 (Or.inr ⟨_, rfl⟩) (Or.inr ⟨rfl, rfl⟩) ?_
  refine w_aload_n dX5_init_13 rfl ?_
  refine w_iconst (v := 0) dX5_init_14 (by decide) ?_
  refine x_puti (ci := 5) (k := 1) dX5_init_15 rfl (by decide) (by decide) (by decide) fl_X5_15 rfl rfl ?_
  refine w_aload_n dX5_init_18 rfl ?_
  refine x_new (ci := 0) dX5_init_19 (by decide) rfl (by decide) cl_X5_19 inst_0 init_0 z1 (by decide) (by decide) ?_
  refine w_dup dX5_init_22 rfl ?_
  refine z_callI dX5_init_23 lk_X5_21 [] rfl (c_X0_init E l gK_25 (z1.mono (by omega))) rfl ⟨⟨by decide, by decide⟩, by decide, by decide⟩ (lb rfl) ?_
  refine x_putr (ci := 5) (k := 6) dX5_init_26 rfl (by decide) (by decide) (by decide) fl_X5_22 (Or.inl ⟨_, rfl⟩) (Or.inl rfl) ?_
  refine w_vret dX5_init_29 rfl ⟨rfl, rfl⟩ (by decide) (by decide)
def iSo (I : Nat → Nat → Int32) : Nat → Nat → Int32 := up2 (up2 I 47 4 (-1)) 47 5 0
def rSo (R : Nat → Nat → Option Nat) : Nat → Nat → Option Nat := up2 (up2 (up2 R 47 0 (some 48)) 47 1 (some 49)) 47 2 (some 50)
set_option maxRecDepth 100000 in
theorem c_X3_init (hz : g_zf I J R D 48) : g_Ct E l mX3_init 1 20 3 262289 [.ref 47] (I, J, R, D, 48, true) (g_is none (iSo I, J, rSo R, D, 51, true)) := by
  refine g_Ct.of (by decide +kernel) (lb rfl) ?_
  have z1 : g_zf I J (up2 R 47 0 (some 48)) D 49 := (hz.mono (by omega)).r (by omega)
  have z2 : g_zf I J (up2 (up2 R 47 0 (some 48)) 47 1 (some 49)) D 50 := (z1.mono (by omega)).r (by omega)
  refine w_aload_n dX3_init_0 rfl ?_
  refine w_objInit dX3_init_1 lx_X3_3 (by decide) (lb rfl) ?_
  refine w_aload_n dX3_init_4 rfl ?_
  refine w_ldc dX3_init_5 kc_X3_9 ?_
  refine x_newarr (c := 8) (L := 262144) dX3_init_7 (by decide) rfl (by decide) (by decide) rfl arrc_8 rfl hz (by decide) (by decide) ?_
  refine x_putr (ci := 3) (k := 0) dX3_init_9 rfl (by decide) (by decide) (by decide) fl_X3_10 (Or.inr ⟨_, rfl⟩) (Or.inr ⟨rfl, rfl⟩) ?_
  refine w_aload_n dX3_init_12 rfl ?_
  refine w_bipush (v := 64) dX3_init_13 (by decide) ?_
  refine x_newarr (c := 8) (L := 64) dX3_init_15 (by decide) rfl (by decide) (by decide) rfl arrc_8 rfl z1 (by decide) (by decide) ?_
  refine x_putr (ci := 3) (k := 1) dX3_init_17 rfl (by decide) (by decide) (by decide) fl_X3_16 (Or.inr ⟨_, rfl⟩) (Or.inr ⟨rfl, rfl⟩) ?_
  refine w_aload_n dX3_init_20 rfl ?_
  refine w_bipush (v := 81) dX3_init_21 (by decide) ?_
  refine x_newarr (c := 8) (L := 81) dX3_init_23 (by decide) rfl (by decide) (by decide) rfl arrc_8 rfl z2 (by decide) (by decide) ?_
  refine x_putr (ci := 3) (k := 2) dX3_init_25 rfl (by decide) (by decide) (by decide) fl_X3_19 (Or.inr ⟨_, rfl⟩) (Or.inr ⟨rfl, rfl⟩) ?_
  refine w_aload_n dX3_init_28 rfl ?_
  refine w_iconst (v := (-1)) dX3_init_29 (by decide) ?_
  refine x_puti (ci := 3) (k := 4) dX3_init_30 rfl (by decide) (by decide) (by decide) fl_X3_22 rfl rfl ?_
  refine w_aload_n dX3_init_33 rfl ?_
  refine w_iconst (v := 0) dX3_init_34 (by decide) ?_
  refine x_puti (ci := 3) (k := 5) dX3_init_35 rfl (by decide) (by decide) (by decide) fl_X3_26 rfl rfl ?_
  refine w_vret dX3_init_38 rfl ⟨rfl, rfl⟩ (by decide) (by decide)
end CH
