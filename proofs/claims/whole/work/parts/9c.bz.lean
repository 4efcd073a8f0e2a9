/-! HeapGamesLaw.law: zeros -/
section CZ
variable (E : GE) (l : Launch)
variable {I : Nat → Nat → Int32} {J : Nat → Nat → Int64} {R : Nat → Nat → Option Nat} {D : Nat → Nat → UInt64} {ex sw : Bool} {A : AS} {n c : Nat}
def g_zm (K : Nat) (V : UInt64) (J : Nat → Nat → Int64) (R : Nat → Nat → Option Nat) (D : Nat → Nat → UInt64) (ex sw : Bool) (A : AS) (n c : Nat) : GZ := fun o w => ∃ b I2, o = .inr (some (.double b)) ∧ w = (I2, J, R, D, 102, ex) ∧ (K = 0 → b = V) ∧ I2 79 17 = nI K ∧ lwI I2 J R sw A (n + 2) (c + 1)
def g_zl (K : Nat) (V : UInt64) (I : Nat → Nat → Int32) (J : Nat → Nat → Int64) (R : Nat → Nat → Option Nat) : GZ := fun o w => ∃ D1 ex1, o = .inr (some (.int (nI K))) ∧ (K = 0 → D1 101 0 = V) ∧ w = (I, J, R, D1, 102, ex1)
set_option maxRecDepth 100000 in
theorem p_zeros (hI : lwI I J R sw A n c) (p0 p1 : Int32) : ∃ (K mc ms : Nat) (V : UInt64), K ≤ 3 ∧ mc ≤ 1 ∧ ms ≤ 6 ∧ g_Ct E l mL_zeros 8 136 mc ms [.ref 0, .int p0, .int p1, .ref 101] (I, J, R, D, 102, ex) (g_zl K V I J R) ∧
    ∀ D1 ex1, g_Ct E l mX7_zeros 3 65 0 0 [.ref 79, .int p0, .int p1] (I, J, R, D1, 102, ex1) (g_zm K V J R D1 ex1 sw A n c) := by
  obtain ⟨i1, i2, i3, i4⟩ := id hI
  have hA := i3.ok
  have h6 := hA.1
  have bad : ∀ (X : String) (K : Nat), (X = sIO ∨ X = sIA) → cd_value X = K → 1 ≤ K ∧ K ≤ 3 → g_Ct E l mX6_zeros 7 111 1 6 [.ref 0, .int p0, .int p1] (I, J, R, D, 102, ex) (g_ths X (I, J, R, D, 102, false)) → (∀ D1 ex1, g_Ct E l mX7_zeros 3 65 0 0 [.ref 79, .int p0, .int p1] (I, J, R, D1, 102, ex1) (g_is (some (.double 0)) (up2 (up2 I 79 17 0) 79 17 (nI K), J, R, D1, 102, ex1))) → ∃ (K mc ms : Nat) (V : UInt64), K ≤ 3 ∧ mc ≤ 1 ∧ ms ≤ 6 ∧ g_Ct E l mL_zeros 8 136 mc ms [.ref 0, .int p0, .int p1, .ref 101] (I, J, R, D, 102, ex) (g_zl K V I J R) ∧
    ∀ D1 ex1, g_Ct E l mX7_zeros 3 65 0 0 [.ref 79, .int p0, .int p1] (I, J, R, D1, 102, ex1) (g_zm K V J R D1 ex1 sw A n c) := by
    intro X K hX hK hK3 hC hM
    refine ⟨K, 1, 6, 0, hK3.2, by decide, by decide, ?_, fun D1 ex1 => (hM D1 ex1).mono ?_⟩
    · refine (l_zeros E l (Pv := fun _ => False) (Px := fun Y => Y = X) (hC.mono ?_) (fun Y hY => by rw [hY]; exact hX)).mono ?_
      · rintro o w1 ⟨z1, z2⟩
        exact Or.inr ⟨X, z1, rfl, z2⟩
      · rintro o w1 ⟨k, D1, ex1, z1, z2, z3⟩
        rcases z2 with ⟨y1, v, y2, y3⟩ | ⟨Y, y1, y2, y3⟩
        · exact y2.elim
        · have e : k = K := by rw [y1, y2, hK]
          subst e
          exact ⟨D1, ex1, z1, fun z => absurd z (by omega), z3⟩
    · rintro o w1 ⟨z1, z2⟩
      have hq := qP.at1 i4 (nI K) 0
      exact ⟨0, _, z1, z2, fun z => absurd z (by omega), hq.2.1, i1, i2, (i3.mono (by omega)).fl hq.1 (fun _ _ => rfl), hq.2.2⟩
  rcases i_rng p0 A.nr (by omega) with ⟨k, hk, rfl⟩ | hx
  · rcases i_rng p1 301 (by decide) with ⟨z, hz, rfl⟩ | hx
    · refine ⟨0, 0, 0, zrS A.ru k z, by decide, by decide, by decide, ?_, fun D1 ex1 => (m_zeros E l i2 hA i4 hk hz).mono ?_⟩
      · refine (l_zeros E l (Pv := fun v => v = zrS A.ru k z) (Px := fun _ => False) ((c_zeros E l i1 i3 hk hz).mono ?_) (fun Y hY => hY.elim)).mono ?_
        · rintro o w1 ⟨z1, z2⟩
          exact Or.inl ⟨_, z1, rfl, z2⟩
        · rintro o w1 ⟨k1, D1, ex1, z1, z2, z3⟩
          rcases z2 with ⟨y1, v, y2, y3⟩ | ⟨Y, y1, y2, y3⟩
          · subst y1
            exact ⟨D1, ex1, z1, fun _ => by rw [y3, up2_s, y2], z3⟩
          · exact y2.elim
      · rintro o w1 ⟨z1, z2⟩
        have hq := qP.at0 i4 0
        exact ⟨_, _, z1, z2, fun _ => rfl, hq.2.1, i1, i2, (i3.mono (by omega)).fl hq.1 (fun _ _ => rfl), hq.2.2⟩
    · exact bad sIA 2 (Or.inr rfl) (by decide) (by decide) (c_zeros_x2 E l i1 i3 hk hx) (fun D1 ex1 => m_zeros_x2 E l i2 hA i4 hk hx)
  · exact bad sIO 1 (Or.inl rfl) (by decide) (by decide) (c_zeros_x1 E l i1 i3 hx _) (fun D1 ex1 => m_zeros_x1 E l i2 hA i4 hx _)
end CZ
section BZ
variable {E : GE} {l : Launch} {Φ : List Frame → Array Value → State → State → Prop} {uc us : Nat}
variable {I : Nat → Nat → Int32} {J : Nat → Nat → Int64} {R : Nat → Nat → Option Nat} {D : Nat → Nat → UInt64} {ex sw : Bool} {A : AS} {n c : Nat}
set_option maxRecDepth 100000 in
theorem b_zeros {t : Nat} (hE : E.2.2.2.2.1 ≤ 3072) (h6 : 6 * t + 5 < E.2.2.2.2.1) (hI : lwI I J R sw A n c) (hn : n < 90000) (hc : c ≤ 1000) (hu : uc + 1 ≤ 601024) (hs : us + 6 ≤ 7293034) (K : ∀ I1 J1 R1 D1 ex1 sw1 A1 mc ms, mc ≤ 1 → ms ≤ 6 → lwI I1 J1 R1 sw1 A1 (n + 2) (c + 1) → g_Wp E l mLaw rmL Φ (uc + mc) (us + ms) 2159 [(5, .int (nI (6 * t))), (4, .ref 101), (3, .ref 100), (2, .ref 79), (1, .ref 0), (0, .ref 1000)] [] (I1, J1, R1, D1, 102, ex1)) : g_Wp E l mLaw rmL Φ uc us 824 [(5, .int (nI (6 * t))), (4, .ref 101), (3, .ref 100), (2, .ref 79), (1, .ref 0), (0, .ref 1000)] [] (I, J, R, D, 102, ex) := by
  obtain ⟨Kc, mc, ms, V, k3, hmc, hms, hCL, hCM⟩ := p_zeros E l (D := D) (ex := ex) hI (E.2.2.2.2.2 (6 * t + 1)) (E.2.2.2.2.2 (6 * t + 2))
  refine w_aload_n dL_law_824 rfl ?_
  refine w_aload_n dL_law_825 rfl ?_
  refine w_iload dL_law_826 rfl ?_
  refine w_iconst (v := 1) dL_law_828 (by decide) ?_
  refine w_iadd dL_law_829 ?_
  refine w_sld (j := (6 * t + 1)) dL_law_830 (show nI (6 * t) + nI 1 = nI (6 * t + 1) from nI_add _ _) (by omega) (by omega) ?_
  refine w_aload_n dL_law_831 rfl ?_
  refine w_iload dL_law_832 rfl ?_
  refine w_iconst (v := 2) dL_law_834 (by decide) ?_
  refine w_iadd dL_law_835 ?_
  refine w_sld (j := (6 * t + 2)) dL_law_836 (show nI (6 * t) + nI 2 = nI (6 * t + 2) from nI_add _ _) (by omega) (by omega) ?_
  refine w_aload dL_law_837 rfl ?_
  refine w_callSX dL_law_839 lk_L_142 hCL rfl rfl ⟨⟨lb rfl, lb rfl⟩, (show uc + mc ≤ 601024 by omega), (show us + ms ≤ 7293034 by omega)⟩ (lb rfl) (fun v w1 h => ?_) (fun X w1 h => ?_)
  · obtain ⟨D1, ex1, h1, h2, h3⟩ := h
    cases h1
    subst h3
    show g_Wp _ _ _ _ _ _ _ _ _ _ _
    refine w_istore dL_law_842 (by decide) rfl ?_
    refine w_aload_n dL_law_844 rfl ?_
    refine w_aload_n dL_law_845 rfl ?_
    refine w_iload dL_law_846 rfl ?_
    refine w_iconst (v := 1) dL_law_848 (by decide) ?_
    refine w_iadd dL_law_849 ?_
    refine w_sld (j := (6 * t + 1)) dL_law_850 (show nI (6 * t) + nI 1 = nI (6 * t + 1) from nI_add _ _) (by omega) (by omega) ?_
    refine w_aload_n dL_law_851 rfl ?_
    refine w_iload dL_law_852 rfl ?_
    refine w_iconst (v := 2) dL_law_854 (by decide) ?_
    refine w_iadd dL_law_855 ?_
    refine w_sld (j := (6 * t + 2)) dL_law_856 (show nI (6 * t) + nI 2 = nI (6 * t + 2) from nI_add _ _) (by omega) (by omega) ?_
    refine w_callV dL_law_857 lk_L_145 (hCM D1 ex1) (g_recv.obj (ci := 7) rfl (by decide) (show 79 < 102 by decide)) rfl rfl ⟨⟨lb rfl, lb rfl⟩, (show uc + mc + 0 ≤ 601024 by omega), (show us + ms + 0 ≤ 7293034 by omega)⟩ (lb rfl) (fun v w1 h => ?_) (fun X w1 h => ?_)
    · obtain ⟨b, I2, h4, h5, m2, m1, m3⟩ := h
      cases h4
      subst h5
      show g_Wp _ _ _ _ _ _ _ _ _ _ _
      refine w_dstore dL_law_860 (by decide) rfl ?_
      refine w_aload_n dL_law_862 rfl ?_
      refine y_callV dL_law_863 lk_L_116 [] rfl (m_thrown E l (show 79 < 102 by decide)) (g_recv.obj (ci := 7) rfl (by decide) (show 79 < 102 by decide)) rfl ⟨⟨lb rfl, lb rfl⟩, (show uc + mc + 0 + 0 ≤ 601024 by omega), (show us + ms + 0 + 0 ≤ 7293034 by omega)⟩ (lb rfl) ?_
      rw [m1]
      refine w_iload dL_law_866 rfl ?_
      refine w_icmp_eq (tgt := 873) dL_law_868 (by decide) (fun c_868 => ?_) (fun c_868 => absurd (rfl) c_868)
      refine w_iload dL_law_873 rfl ?_
      refine w_if_ne (tgt := 910) dL_law_875 (by decide) (fun c_875 => ?_) (fun c_875 => ?_)
      · refine w_goto (tgt := 2159) dL_law_910 (by decide) ?_
        exact w_lv [5, 4, 3, 2, 1, 0] (K I2 J R D1 ex1 sw A mc ms hmc hms m3)
      · refine w_aload dL_law_878 rfl ?_
        refine w_iconst (v := 0) dL_law_880 (by decide) ?_
        have k0 : Kc = 0 := n_eq (b := 0) c_875
        have v1 := h2 k0
        have v2 := m2 k0
        subst v2
        refine x_dald (j := 0) dL_law_881 rfl (show 101 < 102 by decide) rfl (by decide) ?_
        rw [v1]
        refine w_dload dL_law_882 rfl ?_
        refine w_dcmp dL_law_884 ?_
        refine w_if_eq (tgt := 910) dL_law_885 (by decide) (fun c_885 => ?_) (fun c_885 => ?_)
        · refine w_goto (tgt := 2159) dL_law_910 (by decide) ?_
          exact w_lv [5, 4, 3, 2, 1, 0] (K I2 J R D1 ex1 sw A mc ms hmc hms m3)
        · refine w_aload dL_law_888 rfl ?_
          refine w_iconst (v := 0) dL_law_890 (by decide) ?_
          refine x_dald (j := 0) dL_law_891 rfl (show 101 < 102 by decide) rfl (by decide) ?_
          rw [v1]
          refine w_aload dL_law_892 rfl ?_
          refine w_iconst (v := 0) dL_law_894 (by decide) ?_
          refine x_dald (j := 0) dL_law_895 rfl (show 101 < 102 by decide) rfl (by decide) ?_
          rw [v1]
          refine w_dcmp dL_law_896 ?_
          refine w_if_eq (tgt := 908) dL_law_897 (by decide) (fun c_897 => absurd c_897 (c_885)) (fun c_897 => ?_)
          refine w_dload dL_law_900 rfl ?_
          refine w_dload dL_law_902 rfl ?_
          refine w_dcmp dL_law_904 ?_
          refine w_if_ne (tgt := 910) dL_law_905 (by decide) (fun c_905 => ?_) (fun c_905 => absurd c_905 (c_885))
          refine w_goto (tgt := 2159) dL_law_910 (by decide) ?_
          exact w_lv [5, 4, 3, 2, 1, 0] (K I2 J R D1 ex1 sw A mc ms hmc hms m3)
    · obtain ⟨b, I2, h4, h5⟩ := h
      cases h4
  · obtain ⟨D1, ex1, h1, h2, h3⟩ := h
    cases h1
end BZ
