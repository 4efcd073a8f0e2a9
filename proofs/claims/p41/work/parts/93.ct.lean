/-! HeapGames, HeapGamesModel: their constructors -/
section CT
variable (E : GE) (l : Launch)
variable {I : Nat → Nat → Int32} {J : Nat → Nat → Int64} {R : Nat → Nat → Option Nat} {D : Nat → Nat → UInt64} {g : Nat}
theorem rRd_z (h : g_zf I J R D 24) : g_zf (iRd I) J (rRd R) D 47 := by
  have h1 : g_zf I J R D 26 := h.mono (by decide)
  have h2 : g_zf (iRd I) J (up2 R 23 0 (some 24)) D 26 := (h1.r (by decide)).i (by decide)
  have h3 : g_zf (iRd I) J (rGk (up2 R 23 0 (some 24)) 25 6) D 47 := rGk_z h2 6
  exact h3.r (by decide)
theorem rSo_z (h : g_zf I J R D 48) : g_zf (iSo I) J (rSo R) D 51 := ((((((h.mono (by omega)).r (by omega)).r (by omega)).r (by omega)).i (by omega)).i (by omega))
theorem rHi_z (h : g_zf I J R D 52) : g_zf (iHi I) J (rHi R) D 73 :=
  rSt_z (a := 52) (b := 53) (by decide) ((((h.mono (by omega)).r (by omega)).i (by omega)).i (by omega) : g_zf (iHi I) J (up2 R 51 0 (some 52)) D 53) 10
def r6a (R : Nat → Nat → Option Nat) : Nat → Nat → Option Nat := up2 (rGk R 1 6) 0 0 (some 1)
def r6b (R : Nat → Nat → Option Nat) : Nat → Nat → Option Nat := up2 (rRd (r6a R)) 0 1 (some 23)
def r6c (R : Nat → Nat → Option Nat) : Nat → Nat → Option Nat := up2 (rSo (r6b R)) 0 2 (some 47)
def r6d (R : Nat → Nat → Option Nat) : Nat → Nat → Option Nat := up2 (rHi (r6c R)) 0 3 (some 51)
def r6e (R : Nat → Nat → Option Nat) : Nat → Nat → Option Nat := up2 (r6d R) 0 4 (some 73)
def r6f (R : Nat → Nat → Option Nat) : Nat → Nat → Option Nat := up2 (r6e R) 0 5 (some 74)
def rTop (R : Nat → Nat → Option Nat) : Nat → Nat → Option Nat := rSt (r6f R) 73 75 2
def iTop (I : Nat → Nat → Int32) : Nat → Nat → Int32 := iHi (iSo (iRd I))
theorem r6a_z (h : g_zf I J R D 1) : g_zf I J (r6a R) D 23 := (rGk_z (g := 1) (h.mono (by omega)) 6).r (by omega)
theorem r6b_z (h : g_zf I J R D 1) : g_zf (iRd I) J (r6b R) D 47 := (rRd_z ((r6a_z h).mono (by omega))).r (by omega)
theorem r6c_z (h : g_zf I J R D 1) : g_zf (iSo (iRd I)) J (r6c R) D 51 := (rSo_z ((r6b_z h).mono (by omega))).r (by omega)
theorem r6d_z (h : g_zf I J R D 1) : g_zf (iTop I) J (r6d R) D 73 := (rHi_z ((r6c_z h).mono (by omega))).r (by omega)
theorem r6e_z (h : g_zf I J R D 1) : g_zf (iTop I) J (r6e R) D 74 := ((r6d_z h).mono (by omega)).r (by omega)
theorem r6f_z (h : g_zf I J R D 1) : g_zf (iTop I) J (r6f R) D 75 := ((r6e_z h).mono (by omega)).r (by omega)
theorem rTop_z (h : g_zf I J R D 1) : g_zf (iTop I) J (rTop R) D 79 := rSt_z (a := 73) (b := 75) (by decide) (r6f_z h) 2
set_option maxRecDepth 100000 in
theorem c_X6_init (hz : g_zf I J R D 1) : g_Ct E l mX6_init 4 81 78 270673 [.ref 0] (I, J, R, D, 1, true) (g_is none (iTop I, J, rTop R, D, 79, true)) := by
  refine g_Ct.of (by decide +kernel) (lb rfl) ?_
  have zf := r6f_z hz
  have loop : ∀ d k, k + d = 2 → g_Wp E l mX6_init { frames := 4, cells := 78, slots := 270673, locals := 81 } (g_Fin E (g_is none (iTop I, J, rTop R, D, 79, true)) 78 270673) (74 + 2 * k) (270581 + 46 * k) 65 [(1, .int (nI k)), (0, .ref 0)] [] (iTop I, J, rSt (r6f R) 73 75 k, D, 75 + 2 * k, true) := by
    intro d
    induction d with
    | zero =>
      intro k hk
      have hk6 : k = 2 := by omega
      subst hk6
      refine w_iload_n dX6_init_65 rfl ?_
      refine w_iconst (v := 2) dX6_init_66 (by decide) ?_
      refine w_icmp_ge (tgt := 89) dX6_init_67 (by decide) (fun c_67 => ?_) (fun c_67 => absurd ((by decide)) c_67)
      refine w_vret dX6_init_89 rfl ⟨rfl, rfl⟩ (by decide) (by decide)
    | succ d ih =>
      intro k hk
      have hk6 : k < 2 := by omega
      obtain ⟨q1, q2⟩ := ob_s k hk6
      have hzk := rSt_z (a := 73) (b := 75) (by decide) zf k
      have nx := ih (k + 1) (by omega)
      rw [show 74 + 2 * (k + 1) = 74 + 2 * k + 1 + 1 by omega, show 270581 + 46 * (k + 1) = 270581 + 46 * k + 6 + 40 by omega, show 75 + 2 * (k + 1) = 75 + 2 * k + 2 by omega] at nx
      refine w_iload_n dX6_init_65 rfl ?_
      refine w_iconst (v := 2) dX6_init_66 (by decide) ?_
      refine w_icmp_ge (tgt := 89) dX6_init_67 (by decide) (fun c_67 => absurd c_67 ((fun q => absurd (n_le (a := 2) (b := k) q) (by omega)))) (fun c_67 => ?_)
      refine w_aload_n dX6_init_70 rfl ?_
      refine x_getr (ci := 6) (k := 4) dX6_init_71 rfl (by decide) (by decide) (by omega) fl_X6_39 (Or.inr ⟨_, rfl⟩) ((rSt_a (by decide) (by decide) k).trans rfl) ?_
      refine w_iload_n dX6_init_74 rfl ?_
      refine x_new (ci := 4) dX6_init_75 (by omega) (by rw [q1]) (by decide) cl_X6_37 inst_4 init_4 hzk (show 74 + 2 * k + 1 ≤ 78 by omega) (show 270581 + 46 * k + 6 ≤ 270673 by omega) ?_
      refine w_dup dX6_init_78 rfl ?_
      refine z_callIN dX6_init_79 lk_X6_47 [] rfl (c_X4_init E l (I := iTop I) (J := J) (D := D) (by rw [q1]) q2 (hzk.mono (by omega)) (by omega)) rfl ⟨⟨by decide, by decide⟩, (show 74 + 2 * k + 1 + 1 ≤ 78 by omega), (show 270581 + 46 * k + 6 + 40 ≤ 270673 by omega)⟩ (lb rfl) ?_
      refine x_aast14 (j := k) dX6_init_82 rfl (by omega) rfl hk6 (by rw [q1]) (by omega) ?_
      refine w_iinc (v := nI (k + 1)) dX6_init_83 rfl (nI_inc _) (by decide) rfl ?_
      refine w_goto (tgt := 65) dX6_init_86 (by decide) ?_
      exact g_Wp.to E l nx rfl (by rw [show g_N 4 = 6 from rfl]) rfl rfl rfl
  have l0 := loop 2 0 rfl
  refine w_aload_n dX6_init_0 rfl ?_
  refine w_objInit dX6_init_1 lx_X6_3 (by decide) (lb rfl) ?_
  refine w_aload_n dX6_init_4 rfl ?_
  refine x_new (ci := 0) dX6_init_5 (by decide) rfl (by decide) cl_X6_9 inst_0 init_0 hz (by decide) (by decide) ?_
  refine w_dup dX6_init_8 rfl ?_
  refine z_callI dX6_init_9 lk_X6_11 [] rfl (c_X0_init E l gK_1 (hz.mono (by omega))) rfl ⟨⟨by decide, by decide⟩, by decide, by decide⟩ (lb rfl) ?_
  refine x_putr (ci := 6) (k := 0) dX6_init_12 rfl (by decide) (by decide) (by decide) fl_X6_12 (Or.inl ⟨_, rfl⟩) (Or.inl rfl) ?_
  refine w_aload_n dX6_init_15 rfl ?_
  refine x_new (ci := 5) dX6_init_16 (by decide) rfl (by decide) cl_X6_16 inst_5 init_5 (r6a_z hz) (by decide) (by decide) ?_
  refine w_dup dX6_init_19 rfl ?_
  refine z_callIN dX6_init_20 lk_X6_18 [] rfl (c_X5_init E l ((r6a_z hz).mono (by omega))) rfl ⟨⟨by decide, by decide⟩, by decide, by decide⟩ (lb rfl) ?_
  refine x_putr (ci := 6) (k := 1) dX6_init_23 rfl (by decide) (by decide) (by decide) fl_X6_19 (Or.inl ⟨_, rfl⟩) (Or.inr ⟨rfl, rfl⟩) ?_
  refine w_aload_n dX6_init_26 rfl ?_
  refine x_new (ci := 3) dX6_init_27 (by decide) rfl (by decide) cl_X6_23 inst_3 init_3 (r6b_z hz) (by decide) (by decide) ?_
  refine w_dup dX6_init_30 rfl ?_
  refine z_callIN dX6_init_31 lk_X6_25 [] rfl (c_X3_init E l ((r6b_z hz).mono (by omega))) rfl ⟨⟨by decide, by decide⟩, by decide, by decide⟩ (lb rfl) ?_
  refine x_putr (ci := 6) (k := 2) dX6_init_34 rfl (by decide) (by decide) (by decide) fl_X6_26 (Or.inl ⟨_, rfl⟩) (Or.inr ⟨rfl, rfl⟩) ?_
  refine w_aload_n dX6_init_37 rfl ?_
  refine x_new (ci := 1) dX6_init_38 (by decide) rfl (by decide) cl_X6_30 inst_1 init_1 (r6c_z hz) (by decide) (by decide) ?_
  refine w_dup dX6_init_41 rfl ?_
  refine z_callI dX6_init_42 lk_X6_32 [] rfl (c_X1_init E l ((r6c_z hz).mono (by omega))) rfl ⟨⟨by decide, by decide⟩, by decide, by decide⟩ (lb rfl) ?_
  refine x_putr (ci := 6) (k := 3) dX6_init_45 rfl (by decide) (by decide) (by decide) fl_X6_33 (Or.inl ⟨_, rfl⟩) (Or.inr ⟨rfl, rfl⟩) ?_
  refine w_aload_n dX6_init_48 rfl ?_
  refine w_iconst (v := 2) dX6_init_49 (by decide) ?_
  refine x_anewarr (c := 14) (L := 2) dX6_init_50 (by decide) rfl (Or.inr ⟨rfl, rfl⟩) cl_X6_37 rfl (by decide) (r6d_z hz) (by decide) (by decide) ?_
  refine x_putr (ci := 6) (k := 4) dX6_init_53 rfl (by decide) (by decide) (by decide) fl_X6_39 (Or.inr ⟨_, rfl⟩) (Or.inr ⟨rfl, rfl⟩) ?_
  refine w_aload_n dX6_init_56 rfl ?_
  refine w_iconst (v := 2) dX6_init_57 (by decide) ?_
  refine x_newarr (c := 10) (L := 2) dX6_init_58 (by decide) rfl (by decide) (by decide) rfl arrc_10 rfl (r6e_z hz) (by decide) (by decide) ?_
  refine x_putr (ci := 6) (k := 5) dX6_init_60 rfl (by decide) (by decide) (by decide) fl_X6_43 (Or.inr ⟨_, rfl⟩) (Or.inr ⟨rfl, rfl⟩) ?_
  refine w_iconst (v := 0) dX6_init_63 (by decide) ?_
  refine w_istore_n dX6_init_64 (by decide) rfl ?_
  exact g_Wp.to E l l0 (by decide) (by decide) (by decide) rfl rfl
end CT
