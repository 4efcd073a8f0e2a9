/-! HeapGamesLaw.zeros -/
def g_cz (Pv : UInt64 → Prop) (Px : String → Prop) (I : Nat → Nat → Int32) (J : Nat → Nat → Int64) (R : Nat → Nat → Option Nat) (D : Nat → Nat → UInt64) (ex : Bool) : GZ :=
  fun o w => (∃ v, o = .inr (some (.double v)) ∧ Pv v ∧ w = (I, J, R, D, 102, ex)) ∨ ∃ X, o = .inl X ∧ Px X ∧ w = (I, J, R, D, 102, false)
def g_lz (Pv : UInt64 → Prop) (Px : String → Prop) (I : Nat → Nat → Int32) (J : Nat → Nat → Int64) (R : Nat → Nat → Option Nat) (D : Nat → Nat → UInt64) : GZ :=
  fun o w => ∃ k D' ex', o = .inr (some (.int (nI k))) ∧ ((k = 0 ∧ ∃ v, Pv v ∧ D' = up2 D 101 0 v) ∨ ∃ X, k = cd_value X ∧ Px X ∧ D' = D) ∧ w = (I, J, R, D', 102, ex')
section LZ
variable (E : GE) (l : Launch)
variable {I : Nat → Nat → Int32} {J : Nat → Nat → Int64} {R : Nat → Nat → Option Nat} {D : Nat → Nat → UInt64} {ex : Bool} {mc ms : Nat}
set_option maxRecDepth 100000 in
theorem l_zeros {p0 p1 : Int32} {Pv : UInt64 → Prop} {Px : String → Prop} (hC : g_Ct E l mX6_zeros 7 111 mc ms [.ref 0, .int p0, .int p1] (I, J, R, D, 102, ex) (g_cz Pv Px I J R D ex)) (hX : ∀ X, Px X → X = sIO ∨ X = sIA) : g_Ct E l mL_zeros 8 136 mc ms [.ref 0, .int p0, .int p1, .ref 101] (I, J, R, D, 102, ex) (g_lz Pv Px I J R D) := by
  refine g_Ct.of (by decide +kernel) (lb rfl) ?_
  refine w_aload_n dL_zeros_0 rfl ?_
  refine w_iconst (v := 0) dL_zeros_1 (by decide) ?_
  refine w_aload_n dL_zeros_2 rfl ?_
  refine w_iload_n dL_zeros_3 rfl ?_
  refine w_iload_n dL_zeros_4 rfl ?_
  refine w_callV dL_zeros_5 lk_L_41 hC (g_recv.obj (ci := 6) rfl (by decide) (show 0 < 102 by decide)) rfl rfl ⟨⟨lb rfl, lb rfl⟩, Nat.le_of_eq (Nat.zero_add _), Nat.le_of_eq (Nat.zero_add _)⟩ (lb rfl) (fun v w1 h => ?_) (fun X w1 h => ?_)
  · rcases h with ⟨y, h1, h2, h3⟩ | ⟨X, h1, h2, h3⟩
    · cases h1
      subst h3
      show g_Wp _ _ _ _ _ _ _ _ _ _ _
      refine x_dast (j := 0) dL_zeros_8 rfl (by decide) rfl (by decide) ?_
      refine w_goto (tgt := 20) dL_zeros_9 (by decide) ?_
      refine w_iconst (v := 0) dL_zeros_20 (by decide) ?_
      refine w_iret dL_zeros_21 rfl rfl ⟨0, _, _, rfl, Or.inl ⟨rfl, _, h2, rfl⟩, rfl⟩ (Nat.le_of_eq (Nat.zero_add _)) (Nat.le_of_eq (Nat.zero_add _))
    · cases h1
  · rcases h with ⟨y, h1, h2, h3⟩ | ⟨X2, h1, h2, h3⟩
    · cases h1
    · cases h1
      subst h3
      rcases hX _ h2 with rfl | rfl
      · refine w_catch (X := "java/lang/IndexOutOfBoundsException") (a := 161) (b := 165) (by decide +kernel) [] (0, 9, 12, 21) [(0, 9, 16, 13)] rfl (fun z hz => (List.not_mem_nil hz).elim) (by decide) (by decide) cl_L_21 (fun q => ?_)
        refine w_astoreR dL_zeros_12 (by decide) rfl ?_
        refine w_iconst (v := 1) dL_zeros_14 (by decide) ?_
        refine w_iret dL_zeros_15 rfl rfl ⟨1, _, _, rfl, Or.inr ⟨_, by decide, h2, rfl⟩, rfl⟩ (Nat.le_of_eq (Nat.zero_add _)) (Nat.le_of_eq (Nat.zero_add _))
      · refine w_catch (X := "java/lang/IllegalArgumentException") (a := 56) (b := 60) (by decide +kernel) [(0, 9, 12, 21)] (0, 9, 16, 13) [] rfl (fun z hz => by rw [List.mem_singleton.mp hz]; exact ⟨by decide, _, cl_L_21, nc_AO⟩) (by decide) (by decide) cl_L_13 (fun q => ?_)
        refine w_astoreR dL_zeros_16 (by decide) rfl ?_
        refine w_iconst (v := 2) dL_zeros_18 (by decide) ?_
        refine w_iret dL_zeros_19 rfl rfl ⟨2, _, _, rfl, Or.inr ⟨_, by decide, h2, rfl⟩, rfl⟩ (Nat.le_of_eq (Nat.zero_add _)) (Nat.le_of_eq (Nat.zero_add _))
end LZ
