/-! HeapGamesLaw: what it catches -/
def sIA : String := "java/lang/IllegalArgumentException"
def sIO : String := "java/lang/IndexOutOfBoundsException"
def sIS : String := "java/lang/IllegalStateException"
/-- a call of the class answers or throws -/
def g_cl (Pv : Int32 → (Nat → Nat → Int32) → (Nat → Nat → Int64) → (Nat → Nat → Option Nat) → Prop) (Px : String → (Nat → Nat → Int32) → Prop) (J : Nat → Nat → Int64) (R : Nat → Nat → Option Nat) (D : Nat → Nat → UInt64) (ex : Bool) : GZ :=
  fun o w => (∃ v I' J' R', o = .inr (some (.int v)) ∧ Pv v I' J' R' ∧ w = (I', J', R', D, 102, ex)) ∨ ∃ X I', o = .inl X ∧ Px X I' ∧ w = (I', J, R, D, 102, false)
/-- the law's helper tells which -/
def g_lw (P : Nat → (Nat → Nat → Int32) → (Nat → Nat → Int64) → (Nat → Nat → Option Nat) → Prop) (D : Nat → Nat → UInt64) : GZ :=
  fun o w => ∃ k I' J' R' ex', o = .inr (some (.int (nI k))) ∧ P k I' J' R' ∧ w = (I', J', R', D, 102, ex')
/-- .. by the codes of what is thrown -/
def lwQ (cd : String → Nat) (Pv : Int64 → (Nat → Nat → Int32) → (Nat → Nat → Int64) → (Nat → Nat → Option Nat) → Prop) (Px : String → (Nat → Nat → Int32) → Prop) (J : Nat → Nat → Int64) (R : Nat → Nat → Option Nat) : Nat → (Nat → Nat → Int32) → (Nat → Nat → Int64) → (Nat → Nat → Option Nat) → Prop :=
  fun k I' J' R' => (k = 0 ∧ ∃ v J1, Pv v I' J1 R' ∧ J' = up2 J1 100 0 v) ∨ ∃ X, k = cd X ∧ Px X I' ∧ J' = J ∧ R' = R
theorem nc_AO {E : GE} {l : Launch} : ∀ s H, g_K E l s H → va_Nc "java/lang/IllegalArgumentException" "java/lang/IndexOutOfBoundsException" s := fun s H h => h.2.2.2.2.2.2.2.2.2.1.1
theorem nc_SA {E : GE} {l : Launch} : ∀ s H, g_K E l s H → va_Nc "java/lang/IllegalStateException" "java/lang/IllegalArgumentException" s := fun s H h => h.2.2.2.2.2.2.2.2.2.1.2.1
theorem nc_SO {E : GE} {l : Launch} : ∀ s H, g_K E l s H → va_Nc "java/lang/IllegalStateException" "java/lang/IndexOutOfBoundsException" s := fun s H h => h.2.2.2.2.2.2.2.2.2.1.2.2
section LW
variable (E : GE) (l : Launch)
variable {I : Nat → Nat → Int32} {J : Nat → Nat → Int64} {R : Nat → Nat → Option Nat} {D : Nat → Nat → UInt64} {ex : Bool} {mc ms : Nat}
def cd_parse : String → Nat := fun X => if X = sIA then 1 else 9
set_option maxRecDepth 100000 in
theorem l_parse {p0 : Int32} {Pv : Int32 → (Nat → Nat → Int32) → (Nat → Nat → Int64) → (Nat → Nat → Option Nat) → Prop} {Px : String → (Nat → Nat → Int32) → Prop} (hC : g_Ct E l mX6_parse 9 192 mc ms [.ref 0, .int p0] (I, J, R, D, 102, ex) (g_cl Pv Px J R D ex)) (hX : ∀ X I1, Px X I1 → X = sIA) : g_Ct E l mL_parse 10 215 mc ms [.ref 0, .int p0, .ref 100] (I, J, R, D, 102, ex) (g_lw (lwQ cd_parse (fun v I1 J1 R1 => ∃ y : Int32, v = y.toInt64 ∧ Pv y I1 J1 R1) Px J R) D) := by
  refine g_Ct.of (by decide +kernel) (lb rfl) ?_
  refine w_aload_n dL_parse_0 rfl ?_
  refine w_iconst (v := 0) dL_parse_1 (by decide) ?_
  refine w_aload_n dL_parse_2 rfl ?_
  refine w_iload_n dL_parse_3 rfl ?_
  refine w_callV dL_parse_4 lk_L_7 hC (g_recv.obj (ci := 6) rfl (by decide) (show 0 < 102 by decide)) rfl rfl ⟨⟨lb rfl, lb rfl⟩, Nat.le_of_eq (Nat.zero_add _), Nat.le_of_eq (Nat.zero_add _)⟩ (lb rfl) (fun v w1 h => ?_) (fun X w1 h => ?_)
  · rcases h with ⟨y, I1, J1, R1, h1, h2, h3⟩ | ⟨X, I1, h1, h2, h3⟩
    · cases h1
      subst h3
      show g_Wp _ _ _ _ _ _ _ _ _ _ _
      refine w_i2l dL_parse_7 ?_
      refine x_last (j := 0) dL_parse_8 rfl (by decide) rfl (by decide) ?_
      refine w_goto (tgt := 15) dL_parse_9 (by decide) ?_
      refine w_iconst (v := 0) dL_parse_15 (by decide) ?_
      refine w_iret dL_parse_16 rfl rfl ⟨0, _, _, _, _, rfl, Or.inl ⟨rfl, _, _, ⟨_, rfl, h2⟩, rfl⟩, rfl⟩ (Nat.le_of_eq (Nat.zero_add _)) (Nat.le_of_eq (Nat.zero_add _))
    · cases h1
  · rcases h with ⟨y, I1, J1, R1, h1, h2, h3⟩ | ⟨X2, I1, h1, h2, h3⟩
    · cases h1
    · cases h1
      subst h3
      rcases hX _ _ h2 with rfl
      · refine w_catch (X := "java/lang/IllegalArgumentException") (a := 56) (b := 60) (by decide +kernel) [] (0, 9, 12, 13) [] rfl (fun z hz => (List.not_mem_nil hz).elim) (by decide) (by decide) cl_L_13 (fun q => ?_)
        refine w_astoreR_n dL_parse_12 (by decide) rfl ?_
        refine w_iconst (v := 1) dL_parse_13 (by decide) ?_
        refine w_iret dL_parse_14 rfl rfl ⟨1, _, _, _, _, rfl, Or.inr ⟨_, by decide, h2, rfl, rfl⟩, rfl⟩ (Nat.le_of_eq (Nat.zero_add _)) (Nat.le_of_eq (Nat.zero_add _))
def cd_size : String → Nat := fun X => if X = sIA then 1 else 9
set_option maxRecDepth 100000 in
theorem l_size {p0 : Int32} {Pv : Int32 → (Nat → Nat → Int32) → (Nat → Nat → Int64) → (Nat → Nat → Option Nat) → Prop} {Px : String → (Nat → Nat → Int32) → Prop} (hC : g_Ct E l mX6_size 6 132 mc ms [.ref 0, .int p0] (I, J, R, D, 102, ex) (g_cl Pv Px J R D ex)) (hX : ∀ X I1, Px X I1 → X = sIA) : g_Ct E l mL_size 7 154 mc ms [.ref 0, .int p0, .ref 100] (I, J, R, D, 102, ex) (g_lw (lwQ cd_size (fun v I1 J1 R1 => ∃ y : Int32, v = y.toInt64 ∧ Pv y I1 J1 R1) Px J R) D) := by
  refine g_Ct.of (by decide +kernel) (lb rfl) ?_
  refine w_aload_n dL_size_0 rfl ?_
  refine w_iconst (v := 0) dL_size_1 (by decide) ?_
  refine w_aload_n dL_size_2 rfl ?_
  refine w_iload_n dL_size_3 rfl ?_
  refine w_callV dL_size_4 lk_L_15 hC (g_recv.obj (ci := 6) rfl (by decide) (show 0 < 102 by decide)) rfl rfl ⟨⟨lb rfl, lb rfl⟩, Nat.le_of_eq (Nat.zero_add _), Nat.le_of_eq (Nat.zero_add _)⟩ (lb rfl) (fun v w1 h => ?_) (fun X w1 h => ?_)
  · rcases h with ⟨y, I1, J1, R1, h1, h2, h3⟩ | ⟨X, I1, h1, h2, h3⟩
    · cases h1
      subst h3
      show g_Wp _ _ _ _ _ _ _ _ _ _ _
      refine w_i2l dL_size_7 ?_
      refine x_last (j := 0) dL_size_8 rfl (by decide) rfl (by decide) ?_
      refine w_goto (tgt := 15) dL_size_9 (by decide) ?_
      refine w_iconst (v := 0) dL_size_15 (by decide) ?_
      refine w_iret dL_size_16 rfl rfl ⟨0, _, _, _, _, rfl, Or.inl ⟨rfl, _, _, ⟨_, rfl, h2⟩, rfl⟩, rfl⟩ (Nat.le_of_eq (Nat.zero_add _)) (Nat.le_of_eq (Nat.zero_add _))
    · cases h1
  · rcases h with ⟨y, I1, J1, R1, h1, h2, h3⟩ | ⟨X2, I1, h1, h2, h3⟩
    · cases h1
    · cases h1
      subst h3
      rcases hX _ _ h2 with rfl
      · refine w_catch (X := "java/lang/IllegalArgumentException") (a := 56) (b := 60) (by decide +kernel) [] (0, 9, 12, 13) [] rfl (fun z hz => (List.not_mem_nil hz).elim) (by decide) (by decide) cl_L_13 (fun q => ?_)
        refine w_astoreR_n dL_size_12 (by decide) rfl ?_
        refine w_iconst (v := 1) dL_size_13 (by decide) ?_
        refine w_iret dL_size_14 rfl rfl ⟨1, _, _, _, _, rfl, Or.inr ⟨_, by decide, h2, rfl, rfl⟩, rfl⟩ (Nat.le_of_eq (Nat.zero_add _)) (Nat.le_of_eq (Nat.zero_add _))
def cd_kind : String → Nat := fun X => if X = sIO then 1 else 9
set_option maxRecDepth 100000 in
theorem l_kind {p0 : Int32} {Pv : Int32 → (Nat → Nat → Int32) → (Nat → Nat → Int64) → (Nat → Nat → Option Nat) → Prop} {Px : String → (Nat → Nat → Int32) → Prop} (hC : g_Ct E l mX6_kind 7 111 mc ms [.ref 0, .int p0] (I, J, R, D, 102, ex) (g_cl Pv Px J R D ex)) (hX : ∀ X I1, Px X I1 → X = sIO) : g_Ct E l mL_kind 8 132 mc ms [.ref 0, .int p0, .ref 100] (I, J, R, D, 102, ex) (g_lw (lwQ cd_kind (fun v I1 J1 R1 => ∃ y : Int32, v = y.toInt64 ∧ Pv y I1 J1 R1) Px J R) D) := by
  refine g_Ct.of (by decide +kernel) (lb rfl) ?_
  refine w_aload_n dL_kind_0 rfl ?_
  refine w_iconst (v := 0) dL_kind_1 (by decide) ?_
  refine w_aload_n dL_kind_2 rfl ?_
  refine w_iload_n dL_kind_3 rfl ?_
  refine w_callV dL_kind_4 lk_L_18 hC (g_recv.obj (ci := 6) rfl (by decide) (show 0 < 102 by decide)) rfl rfl ⟨⟨lb rfl, lb rfl⟩, Nat.le_of_eq (Nat.zero_add _), Nat.le_of_eq (Nat.zero_add _)⟩ (lb rfl) (fun v w1 h => ?_) (fun X w1 h => ?_)
  · rcases h with ⟨y, I1, J1, R1, h1, h2, h3⟩ | ⟨X, I1, h1, h2, h3⟩
    · cases h1
      subst h3
      show g_Wp _ _ _ _ _ _ _ _ _ _ _
      refine w_i2l dL_kind_7 ?_
      refine x_last (j := 0) dL_kind_8 rfl (by decide) rfl (by decide) ?_
      refine w_goto (tgt := 15) dL_kind_9 (by decide) ?_
      refine w_iconst (v := 0) dL_kind_15 (by decide) ?_
      refine w_iret dL_kind_16 rfl rfl ⟨0, _, _, _, _, rfl, Or.inl ⟨rfl, _, _, ⟨_, rfl, h2⟩, rfl⟩, rfl⟩ (Nat.le_of_eq (Nat.zero_add _)) (Nat.le_of_eq (Nat.zero_add _))
    · cases h1
  · rcases h with ⟨y, I1, J1, R1, h1, h2, h3⟩ | ⟨X2, I1, h1, h2, h3⟩
    · cases h1
    · cases h1
      subst h3
      rcases hX _ _ h2 with rfl
      · refine w_catch (X := "java/lang/IndexOutOfBoundsException") (a := 161) (b := 165) (by decide +kernel) [] (0, 9, 12, 21) [] rfl (fun z hz => (List.not_mem_nil hz).elim) (by decide) (by decide) cl_L_21 (fun q => ?_)
        refine w_astoreR_n dL_kind_12 (by decide) rfl ?_
        refine w_iconst (v := 1) dL_kind_13 (by decide) ?_
        refine w_iret dL_kind_14 rfl rfl ⟨1, _, _, _, _, rfl, Or.inr ⟨_, by decide, h2, rfl, rfl⟩, rfl⟩ (Nat.le_of_eq (Nat.zero_add _)) (Nat.le_of_eq (Nat.zero_add _))
def cd_mayTake : String → Nat := fun X => if X = sIO then 1 else if X = sIA then 2 else 9
set_option maxRecDepth 100000 in
theorem l_mayTake {p0 p1 p2 : Int32} {Pv : Int32 → (Nat → Nat → Int32) → (Nat → Nat → Int64) → (Nat → Nat → Option Nat) → Prop} {Px : String → (Nat → Nat → Int32) → Prop} (hC : g_Ct E l mX6_mayTake 7 111 mc ms [.ref 0, .int p0, .int p1, .int p2] (I, J, R, D, 102, ex) (g_cl Pv Px J R D ex)) (hX : ∀ X I1, Px X I1 → X = sIO ∨ X = sIA) (hb : ∀ v I1 J1 R1, Pv v I1 J1 R1 → ∃ b : Bool, v = b2i b) : g_Ct E l mL_mayTake 8 135 mc ms [.ref 0, .int p0, .int p1, .int p2, .ref 100] (I, J, R, D, 102, ex) (g_lw (lwQ cd_mayTake (fun v I1 J1 R1 => ∃ b : Bool, v = (if b then 1 else 0) ∧ Pv (b2i b) I1 J1 R1) Px J R) D) := by
  refine g_Ct.of (by decide +kernel) (lb rfl) ?_
  refine w_aload dL_mayTake_0 rfl ?_
  refine w_iconst (v := 0) dL_mayTake_2 (by decide) ?_
  refine w_aload_n dL_mayTake_3 rfl ?_
  refine w_iload_n dL_mayTake_4 rfl ?_
  refine w_iload_n dL_mayTake_5 rfl ?_
  refine w_iload_n dL_mayTake_6 rfl ?_
  refine w_callV dL_mayTake_7 lk_L_23 hC (g_recv.obj (ci := 6) rfl (by decide) (show 0 < 102 by decide)) rfl rfl ⟨⟨lb rfl, lb rfl⟩, Nat.le_of_eq (Nat.zero_add _), Nat.le_of_eq (Nat.zero_add _)⟩ (lb rfl) (fun v w1 h => ?_) (fun X w1 h => ?_)
  · rcases h with ⟨y, I1, J1, R1, h1, h2, h3⟩ | ⟨X, I1, h1, h2, h3⟩
    · cases h1
      subst h3
      obtain ⟨b, rfl⟩ := hb _ _ _ _ h2
      cases b
      · show g_Wp _ _ _ _ _ _ _ _ _ _ _
        refine w_if_eq (tgt := 17) dL_mayTake_10 (by decide) (fun c_10 => ?_) (fun c_10 => absurd ((by decide)) c_10)
        refine w_lconst (v := 0) dL_mayTake_17 (by decide) ?_
        refine x_last (j := 0) dL_mayTake_18 rfl (by decide) rfl (by decide) ?_
        refine w_goto (tgt := 30) dL_mayTake_19 (by decide) ?_
        refine w_iconst (v := 0) dL_mayTake_30 (by decide) ?_
        refine w_iret dL_mayTake_31 rfl rfl ⟨0, _, _, _, _, rfl, Or.inl ⟨rfl, _, _, ⟨false, rfl, h2⟩, rfl⟩, rfl⟩ (Nat.le_of_eq (Nat.zero_add _)) (Nat.le_of_eq (Nat.zero_add _))
      · show g_Wp _ _ _ _ _ _ _ _ _ _ _
        refine w_if_eq (tgt := 17) dL_mayTake_10 (by decide) (fun c_10 => absurd c_10 ((by decide))) (fun c_10 => ?_)
        refine w_lconst (v := 1) dL_mayTake_13 (by decide) ?_
        refine w_goto (tgt := 18) dL_mayTake_14 (by decide) ?_
        refine x_last (j := 0) dL_mayTake_18 rfl (by decide) rfl (by decide) ?_
        refine w_goto (tgt := 30) dL_mayTake_19 (by decide) ?_
        refine w_iconst (v := 0) dL_mayTake_30 (by decide) ?_
        refine w_iret dL_mayTake_31 rfl rfl ⟨0, _, _, _, _, rfl, Or.inl ⟨rfl, _, _, ⟨true, rfl, h2⟩, rfl⟩, rfl⟩ (Nat.le_of_eq (Nat.zero_add _)) (Nat.le_of_eq (Nat.zero_add _))
    · cases h1
  · rcases h with ⟨y, I1, J1, R1, h1, h2, h3⟩ | ⟨X2, I1, h1, h2, h3⟩
    · cases h1
    · cases h1
      subst h3
      rcases hX _ _ h2 with rfl | rfl
      · refine w_catch (X := "java/lang/IndexOutOfBoundsException") (a := 161) (b := 165) (by decide +kernel) [] (0, 19, 22, 21) [(0, 19, 26, 13)] rfl (fun z hz => (List.not_mem_nil hz).elim) (by decide) (by decide) cl_L_21 (fun q => ?_)
        refine w_astoreR dL_mayTake_22 (by decide) rfl ?_
        refine w_iconst (v := 1) dL_mayTake_24 (by decide) ?_
        refine w_iret dL_mayTake_25 rfl rfl ⟨1, _, _, _, _, rfl, Or.inr ⟨_, by decide, h2, rfl, rfl⟩, rfl⟩ (Nat.le_of_eq (Nat.zero_add _)) (Nat.le_of_eq (Nat.zero_add _))
      · refine w_catch (X := "java/lang/IllegalArgumentException") (a := 56) (b := 60) (by decide +kernel) [(0, 19, 22, 21)] (0, 19, 26, 13) [] rfl (fun z hz => by rw [List.mem_singleton.mp hz]; exact ⟨by decide, _, cl_L_21, nc_AO⟩) (by decide) (by decide) cl_L_13 (fun q => ?_)
        refine w_astoreR dL_mayTake_26 (by decide) rfl ?_
        refine w_iconst (v := 2) dL_mayTake_28 (by decide) ?_
        refine w_iret dL_mayTake_29 rfl rfl ⟨2, _, _, _, _, rfl, Or.inr ⟨_, by decide, h2, rfl, rfl⟩, rfl⟩ (Nat.le_of_eq (Nat.zero_add _)) (Nat.le_of_eq (Nat.zero_add _))
def cd_amounts : String → Nat := fun X => if X = sIO then 1 else if X = sIA then 2 else 9
set_option maxRecDepth 100000 in
theorem l_amounts {p0 p1 : Int32} {Pv : Int32 → (Nat → Nat → Int32) → (Nat → Nat → Int64) → (Nat → Nat → Option Nat) → Prop} {Px : String → (Nat → Nat → Int32) → Prop} (hC : g_Ct E l mX6_amounts 7 111 mc ms [.ref 0, .int p0, .int p1] (I, J, R, D, 102, ex) (g_cl Pv Px J R D ex)) (hX : ∀ X I1, Px X I1 → X = sIO ∨ X = sIA) : g_Ct E l mL_amounts 8 134 mc ms [.ref 0, .int p0, .int p1, .ref 100] (I, J, R, D, 102, ex) (g_lw (lwQ cd_amounts (fun v I1 J1 R1 => ∃ y : Int32, v = y.toInt64 ∧ Pv y I1 J1 R1) Px J R) D) := by
  refine g_Ct.of (by decide +kernel) (lb rfl) ?_
  refine w_aload_n dL_amounts_0 rfl ?_
  refine w_iconst (v := 0) dL_amounts_1 (by decide) ?_
  refine w_aload_n dL_amounts_2 rfl ?_
  refine w_iload_n dL_amounts_3 rfl ?_
  refine w_iload_n dL_amounts_4 rfl ?_
  refine w_callV dL_amounts_5 lk_L_27 hC (g_recv.obj (ci := 6) rfl (by decide) (show 0 < 102 by decide)) rfl rfl ⟨⟨lb rfl, lb rfl⟩, Nat.le_of_eq (Nat.zero_add _), Nat.le_of_eq (Nat.zero_add _)⟩ (lb rfl) (fun v w1 h => ?_) (fun X w1 h => ?_)
  · rcases h with ⟨y, I1, J1, R1, h1, h2, h3⟩ | ⟨X, I1, h1, h2, h3⟩
    · cases h1
      subst h3
      show g_Wp _ _ _ _ _ _ _ _ _ _ _
      refine w_i2l dL_amounts_8 ?_
      refine x_last (j := 0) dL_amounts_9 rfl (by decide) rfl (by decide) ?_
      refine w_goto (tgt := 21) dL_amounts_10 (by decide) ?_
      refine w_iconst (v := 0) dL_amounts_21 (by decide) ?_
      refine w_iret dL_amounts_22 rfl rfl ⟨0, _, _, _, _, rfl, Or.inl ⟨rfl, _, _, ⟨_, rfl, h2⟩, rfl⟩, rfl⟩ (Nat.le_of_eq (Nat.zero_add _)) (Nat.le_of_eq (Nat.zero_add _))
    · cases h1
  · rcases h with ⟨y, I1, J1, R1, h1, h2, h3⟩ | ⟨X2, I1, h1, h2, h3⟩
    · cases h1
    · cases h1
      subst h3
      rcases hX _ _ h2 with rfl | rfl
      · refine w_catch (X := "java/lang/IndexOutOfBoundsException") (a := 161) (b := 165) (by decide +kernel) [] (0, 10, 13, 21) [(0, 10, 17, 13)] rfl (fun z hz => (List.not_mem_nil hz).elim) (by decide) (by decide) cl_L_21 (fun q => ?_)
        refine w_astoreR dL_amounts_13 (by decide) rfl ?_
        refine w_iconst (v := 1) dL_amounts_15 (by decide) ?_
        refine w_iret dL_amounts_16 rfl rfl ⟨1, _, _, _, _, rfl, Or.inr ⟨_, by decide, h2, rfl, rfl⟩, rfl⟩ (Nat.le_of_eq (Nat.zero_add _)) (Nat.le_of_eq (Nat.zero_add _))
      · refine w_catch (X := "java/lang/IllegalArgumentException") (a := 56) (b := 60) (by decide +kernel) [(0, 10, 13, 21)] (0, 10, 17, 13) [] rfl (fun z hz => by rw [List.mem_singleton.mp hz]; exact ⟨by decide, _, cl_L_21, nc_AO⟩) (by decide) (by decide) cl_L_13 (fun q => ?_)
        refine w_astoreR dL_amounts_17 (by decide) rfl ?_
        refine w_iconst (v := 2) dL_amounts_19 (by decide) ?_
        refine w_iret dL_amounts_20 rfl rfl ⟨2, _, _, _, _, rfl, Or.inr ⟨_, by decide, h2, rfl, rfl⟩, rfl⟩ (Nat.le_of_eq (Nat.zero_add _)) (Nat.le_of_eq (Nat.zero_add _))
def cd_value : String → Nat := fun X => if X = sIO then 1 else if X = sIA then 2 else 9
set_option maxRecDepth 100000 in
theorem l_value {p0 p1 : Int32} {Pv : Int32 → (Nat → Nat → Int32) → (Nat → Nat → Int64) → (Nat → Nat → Option Nat) → Prop} {Px : String → (Nat → Nat → Int32) → Prop} (hC : g_Ct E l mX6_value 7 111 mc ms [.ref 0, .int p0, .int p1] (I, J, R, D, 102, ex) (g_cl Pv Px J R D ex)) (hX : ∀ X I1, Px X I1 → X = sIO ∨ X = sIA) : g_Ct E l mL_value 8 134 mc ms [.ref 0, .int p0, .int p1, .ref 100] (I, J, R, D, 102, ex) (g_lw (lwQ cd_value (fun v I1 J1 R1 => ∃ y : Int32, v = y.toInt64 ∧ Pv y I1 J1 R1) Px J R) D) := by
  refine g_Ct.of (by decide +kernel) (lb rfl) ?_
  refine w_aload_n dL_value_0 rfl ?_
  refine w_iconst (v := 0) dL_value_1 (by decide) ?_
  refine w_aload_n dL_value_2 rfl ?_
  refine w_iload_n dL_value_3 rfl ?_
  refine w_iload_n dL_value_4 rfl ?_
  refine w_callV dL_value_5 lk_L_31 hC (g_recv.obj (ci := 6) rfl (by decide) (show 0 < 102 by decide)) rfl rfl ⟨⟨lb rfl, lb rfl⟩, Nat.le_of_eq (Nat.zero_add _), Nat.le_of_eq (Nat.zero_add _)⟩ (lb rfl) (fun v w1 h => ?_) (fun X w1 h => ?_)
  · rcases h with ⟨y, I1, J1, R1, h1, h2, h3⟩ | ⟨X, I1, h1, h2, h3⟩
    · cases h1
      subst h3
      show g_Wp _ _ _ _ _ _ _ _ _ _ _
      refine w_i2l dL_value_8 ?_
      refine x_last (j := 0) dL_value_9 rfl (by decide) rfl (by decide) ?_
      refine w_goto (tgt := 21) dL_value_10 (by decide) ?_
      refine w_iconst (v := 0) dL_value_21 (by decide) ?_
      refine w_iret dL_value_22 rfl rfl ⟨0, _, _, _, _, rfl, Or.inl ⟨rfl, _, _, ⟨_, rfl, h2⟩, rfl⟩, rfl⟩ (Nat.le_of_eq (Nat.zero_add _)) (Nat.le_of_eq (Nat.zero_add _))
    · cases h1
  · rcases h with ⟨y, I1, J1, R1, h1, h2, h3⟩ | ⟨X2, I1, h1, h2, h3⟩
    · cases h1
    · cases h1
      subst h3
      rcases hX _ _ h2 with rfl | rfl
      · refine w_catch (X := "java/lang/IndexOutOfBoundsException") (a := 161) (b := 165) (by decide +kernel) [] (0, 10, 13, 21) [(0, 10, 17, 13)] rfl (fun z hz => (List.not_mem_nil hz).elim) (by decide) (by decide) cl_L_21 (fun q => ?_)
        refine w_astoreR dL_value_13 (by decide) rfl ?_
        refine w_iconst (v := 1) dL_value_15 (by decide) ?_
        refine w_iret dL_value_16 rfl rfl ⟨1, _, _, _, _, rfl, Or.inr ⟨_, by decide, h2, rfl, rfl⟩, rfl⟩ (Nat.le_of_eq (Nat.zero_add _)) (Nat.le_of_eq (Nat.zero_add _))
      · refine w_catch (X := "java/lang/IllegalArgumentException") (a := 56) (b := 60) (by decide +kernel) [(0, 10, 13, 21)] (0, 10, 17, 13) [] rfl (fun z hz => by rw [List.mem_singleton.mp hz]; exact ⟨by decide, _, cl_L_21, nc_AO⟩) (by decide) (by decide) cl_L_13 (fun q => ?_)
        refine w_astoreR dL_value_17 (by decide) rfl ?_
        refine w_iconst (v := 2) dL_value_19 (by decide) ?_
        refine w_iret dL_value_20 rfl rfl ⟨2, _, _, _, _, rfl, Or.inr ⟨_, by decide, h2, rfl, rfl⟩, rfl⟩ (Nat.le_of_eq (Nat.zero_add _)) (Nat.le_of_eq (Nat.zero_add _))
def cd_heapWith : String → Nat := fun X => if X = sIO then 1 else 9
set_option maxRecDepth 100000 in
theorem l_heapWith {p0 p1 p2 : Int32} {Pv : Int32 → (Nat → Nat → Int32) → (Nat → Nat → Int64) → (Nat → Nat → Option Nat) → Prop} {Px : String → (Nat → Nat → Int32) → Prop} (hC : g_Ct E l mX6_heapWith 7 111 mc ms [.ref 0, .int p0, .int p1, .int p2] (I, J, R, D, 102, ex) (g_cl Pv Px J R D ex)) (hX : ∀ X I1, Px X I1 → X = sIO) : g_Ct E l mL_heapWith 8 137 mc ms [.ref 0, .int p0, .int p1, .int p2, .ref 100] (I, J, R, D, 102, ex) (g_lw (lwQ cd_heapWith (fun v I1 J1 R1 => ∃ y : Int32, v = y.toInt64 ∧ Pv y I1 J1 R1) Px J R) D) := by
  refine g_Ct.of (by decide +kernel) (lb rfl) ?_
  refine w_aload dL_heapWith_0 rfl ?_
  refine w_iconst (v := 0) dL_heapWith_2 (by decide) ?_
  refine w_aload_n dL_heapWith_3 rfl ?_
  refine w_iload_n dL_heapWith_4 rfl ?_
  refine w_iload_n dL_heapWith_5 rfl ?_
  refine w_iload_n dL_heapWith_6 rfl ?_
  refine w_callV dL_heapWith_7 lk_L_34 hC (g_recv.obj (ci := 6) rfl (by decide) (show 0 < 102 by decide)) rfl rfl ⟨⟨lb rfl, lb rfl⟩, Nat.le_of_eq (Nat.zero_add _), Nat.le_of_eq (Nat.zero_add _)⟩ (lb rfl) (fun v w1 h => ?_) (fun X w1 h => ?_)
  · rcases h with ⟨y, I1, J1, R1, h1, h2, h3⟩ | ⟨X, I1, h1, h2, h3⟩
    · cases h1
      subst h3
      show g_Wp _ _ _ _ _ _ _ _ _ _ _
      refine w_i2l dL_heapWith_10 ?_
      refine x_last (j := 0) dL_heapWith_11 rfl (by decide) rfl (by decide) ?_
      refine w_goto (tgt := 19) dL_heapWith_12 (by decide) ?_
      refine w_iconst (v := 0) dL_heapWith_19 (by decide) ?_
      refine w_iret dL_heapWith_20 rfl rfl ⟨0, _, _, _, _, rfl, Or.inl ⟨rfl, _, _, ⟨_, rfl, h2⟩, rfl⟩, rfl⟩ (Nat.le_of_eq (Nat.zero_add _)) (Nat.le_of_eq (Nat.zero_add _))
    · cases h1
  · rcases h with ⟨y, I1, J1, R1, h1, h2, h3⟩ | ⟨X2, I1, h1, h2, h3⟩
    · cases h1
    · cases h1
      subst h3
      rcases hX _ _ h2 with rfl
      · refine w_catch (X := "java/lang/IndexOutOfBoundsException") (a := 161) (b := 165) (by decide +kernel) [] (0, 12, 15, 21) [] rfl (fun z hz => (List.not_mem_nil hz).elim) (by decide) (by decide) cl_L_21 (fun q => ?_)
        refine w_astoreR dL_heapWith_15 (by decide) rfl ?_
        refine w_iconst (v := 1) dL_heapWith_17 (by decide) ?_
        refine w_iret dL_heapWith_18 rfl rfl ⟨1, _, _, _, _, rfl, Or.inr ⟨_, by decide, h2, rfl, rfl⟩, rfl⟩ (Nat.le_of_eq (Nat.zero_add _)) (Nat.le_of_eq (Nat.zero_add _))
def cd_greatest : String → Nat := fun X => if X = sIO then 1 else if X = sIA then 2 else 9
set_option maxRecDepth 100000 in
theorem l_greatest {p0 p1 : Int32} {Pv : Int32 → (Nat → Nat → Int32) → (Nat → Nat → Int64) → (Nat → Nat → Option Nat) → Prop} {Px : String → (Nat → Nat → Int32) → Prop} (hC : g_Ct E l mX6_greatest 7 111 mc ms [.ref 0, .int p0, .int p1] (I, J, R, D, 102, ex) (g_cl Pv Px J R D ex)) (hX : ∀ X I1, Px X I1 → X = sIO ∨ X = sIA) : g_Ct E l mL_greatest 8 136 mc ms [.ref 0, .int p0, .int p1, .ref 100] (I, J, R, D, 102, ex) (g_lw (lwQ cd_greatest (fun v I1 J1 R1 => ∃ y : Int32, v = y.toInt64 ∧ Pv y I1 J1 R1) Px J R) D) := by
  refine g_Ct.of (by decide +kernel) (lb rfl) ?_
  refine w_aload_n dL_greatest_0 rfl ?_
  refine w_iconst (v := 0) dL_greatest_1 (by decide) ?_
  refine w_aload_n dL_greatest_2 rfl ?_
  refine w_iload_n dL_greatest_3 rfl ?_
  refine w_iload_n dL_greatest_4 rfl ?_
  refine w_callV dL_greatest_5 lk_L_38 hC (g_recv.obj (ci := 6) rfl (by decide) (show 0 < 102 by decide)) rfl rfl ⟨⟨lb rfl, lb rfl⟩, Nat.le_of_eq (Nat.zero_add _), Nat.le_of_eq (Nat.zero_add _)⟩ (lb rfl) (fun v w1 h => ?_) (fun X w1 h => ?_)
  · rcases h with ⟨y, I1, J1, R1, h1, h2, h3⟩ | ⟨X, I1, h1, h2, h3⟩
    · cases h1
      subst h3
      show g_Wp _ _ _ _ _ _ _ _ _ _ _
      refine w_i2l dL_greatest_8 ?_
      refine x_last (j := 0) dL_greatest_9 rfl (by decide) rfl (by decide) ?_
      refine w_goto (tgt := 21) dL_greatest_10 (by decide) ?_
      refine w_iconst (v := 0) dL_greatest_21 (by decide) ?_
      refine w_iret dL_greatest_22 rfl rfl ⟨0, _, _, _, _, rfl, Or.inl ⟨rfl, _, _, ⟨_, rfl, h2⟩, rfl⟩, rfl⟩ (Nat.le_of_eq (Nat.zero_add _)) (Nat.le_of_eq (Nat.zero_add _))
    · cases h1
  · rcases h with ⟨y, I1, J1, R1, h1, h2, h3⟩ | ⟨X2, I1, h1, h2, h3⟩
    · cases h1
    · cases h1
      subst h3
      rcases hX _ _ h2 with rfl | rfl
      · refine w_catch (X := "java/lang/IndexOutOfBoundsException") (a := 161) (b := 165) (by decide +kernel) [] (0, 10, 13, 21) [(0, 10, 17, 13)] rfl (fun z hz => (List.not_mem_nil hz).elim) (by decide) (by decide) cl_L_21 (fun q => ?_)
        refine w_astoreR dL_greatest_13 (by decide) rfl ?_
        refine w_iconst (v := 1) dL_greatest_15 (by decide) ?_
        refine w_iret dL_greatest_16 rfl rfl ⟨1, _, _, _, _, rfl, Or.inr ⟨_, by decide, h2, rfl, rfl⟩, rfl⟩ (Nat.le_of_eq (Nat.zero_add _)) (Nat.le_of_eq (Nat.zero_add _))
      · refine w_catch (X := "java/lang/IllegalArgumentException") (a := 56) (b := 60) (by decide +kernel) [(0, 10, 13, 21)] (0, 10, 17, 13) [] rfl (fun z hz => by rw [List.mem_singleton.mp hz]; exact ⟨by decide, _, cl_L_21, nc_AO⟩) (by decide) (by decide) cl_L_13 (fun q => ?_)
        refine w_astoreR dL_greatest_17 (by decide) rfl ?_
        refine w_iconst (v := 2) dL_greatest_19 (by decide) ?_
        refine w_iret dL_greatest_20 rfl rfl ⟨2, _, _, _, _, rfl, Or.inr ⟨_, by decide, h2, rfl, rfl⟩, rfl⟩ (Nat.le_of_eq (Nat.zero_add _)) (Nat.le_of_eq (Nat.zero_add _))
def cd_period : String → Nat := fun X => if X = sIO then 1 else if X = sIA then 2 else 9
set_option maxRecDepth 100000 in
theorem l_period {p0 p1 : Int32} {Pv : Int32 → (Nat → Nat → Int32) → (Nat → Nat → Int64) → (Nat → Nat → Option Nat) → Prop} {Px : String → (Nat → Nat → Int32) → Prop} (hC : g_Ct E l mX6_period 7 111 mc ms [.ref 0, .int p0, .int p1] (I, J, R, D, 102, ex) (g_cl Pv Px J R D ex)) (hX : ∀ X I1, Px X I1 → X = sIO ∨ X = sIA) : g_Ct E l mL_period 8 134 mc ms [.ref 0, .int p0, .int p1, .ref 100] (I, J, R, D, 102, ex) (g_lw (lwQ cd_period (fun v I1 J1 R1 => ∃ y : Int32, v = y.toInt64 ∧ Pv y I1 J1 R1) Px J R) D) := by
  refine g_Ct.of (by decide +kernel) (lb rfl) ?_
  refine w_aload_n dL_period_0 rfl ?_
  refine w_iconst (v := 0) dL_period_1 (by decide) ?_
  refine w_aload_n dL_period_2 rfl ?_
  refine w_iload_n dL_period_3 rfl ?_
  refine w_iload_n dL_period_4 rfl ?_
  refine w_callV dL_period_5 lk_L_45 hC (g_recv.obj (ci := 6) rfl (by decide) (show 0 < 102 by decide)) rfl rfl ⟨⟨lb rfl, lb rfl⟩, Nat.le_of_eq (Nat.zero_add _), Nat.le_of_eq (Nat.zero_add _)⟩ (lb rfl) (fun v w1 h => ?_) (fun X w1 h => ?_)
  · rcases h with ⟨y, I1, J1, R1, h1, h2, h3⟩ | ⟨X, I1, h1, h2, h3⟩
    · cases h1
      subst h3
      show g_Wp _ _ _ _ _ _ _ _ _ _ _
      refine w_i2l dL_period_8 ?_
      refine x_last (j := 0) dL_period_9 rfl (by decide) rfl (by decide) ?_
      refine w_goto (tgt := 21) dL_period_10 (by decide) ?_
      refine w_iconst (v := 0) dL_period_21 (by decide) ?_
      refine w_iret dL_period_22 rfl rfl ⟨0, _, _, _, _, rfl, Or.inl ⟨rfl, _, _, ⟨_, rfl, h2⟩, rfl⟩, rfl⟩ (Nat.le_of_eq (Nat.zero_add _)) (Nat.le_of_eq (Nat.zero_add _))
    · cases h1
  · rcases h with ⟨y, I1, J1, R1, h1, h2, h3⟩ | ⟨X2, I1, h1, h2, h3⟩
    · cases h1
    · cases h1
      subst h3
      rcases hX _ _ h2 with rfl | rfl
      · refine w_catch (X := "java/lang/IndexOutOfBoundsException") (a := 161) (b := 165) (by decide +kernel) [] (0, 10, 13, 21) [(0, 10, 17, 13)] rfl (fun z hz => (List.not_mem_nil hz).elim) (by decide) (by decide) cl_L_21 (fun q => ?_)
        refine w_astoreR dL_period_13 (by decide) rfl ?_
        refine w_iconst (v := 1) dL_period_15 (by decide) ?_
        refine w_iret dL_period_16 rfl rfl ⟨1, _, _, _, _, rfl, Or.inr ⟨_, by decide, h2, rfl, rfl⟩, rfl⟩ (Nat.le_of_eq (Nat.zero_add _)) (Nat.le_of_eq (Nat.zero_add _))
      · refine w_catch (X := "java/lang/IllegalArgumentException") (a := 56) (b := 60) (by decide +kernel) [(0, 10, 13, 21)] (0, 10, 17, 13) [] rfl (fun z hz => by rw [List.mem_singleton.mp hz]; exact ⟨by decide, _, cl_L_21, nc_AO⟩) (by decide) (by decide) cl_L_13 (fun q => ?_)
        refine w_astoreR dL_period_17 (by decide) rfl ?_
        refine w_iconst (v := 2) dL_period_19 (by decide) ?_
        refine w_iret dL_period_20 rfl rfl ⟨2, _, _, _, _, rfl, Or.inr ⟨_, by decide, h2, rfl, rfl⟩, rfl⟩ (Nat.le_of_eq (Nat.zero_add _)) (Nat.le_of_eq (Nat.zero_add _))
def cd_start : String → Nat := fun X => if X = sIO then 1 else if X = sIA then 2 else 9
set_option maxRecDepth 100000 in
theorem l_start {p0 p1 : Int32} {Pv : Int32 → (Nat → Nat → Int32) → (Nat → Nat → Int64) → (Nat → Nat → Option Nat) → Prop} {Px : String → (Nat → Nat → Int32) → Prop} (hC : g_Ct E l mX6_start 7 111 mc ms [.ref 0, .int p0, .int p1] (I, J, R, D, 102, ex) (g_cl Pv Px J R D ex)) (hX : ∀ X I1, Px X I1 → X = sIO ∨ X = sIA) : g_Ct E l mL_start 8 135 mc ms [.ref 0, .int p0, .int p1, .ref 100] (I, J, R, D, 102, ex) (g_lw (lwQ cd_start (fun v I1 J1 R1 => ∃ y : Int32, v = y.toInt64 ∧ Pv y I1 J1 R1) Px J R) D) := by
  refine g_Ct.of (by decide +kernel) (lb rfl) ?_
  refine w_aload_n dL_start_0 rfl ?_
  refine w_iconst (v := 0) dL_start_1 (by decide) ?_
  refine w_aload_n dL_start_2 rfl ?_
  refine w_iload_n dL_start_3 rfl ?_
  refine w_iload_n dL_start_4 rfl ?_
  refine w_callV dL_start_5 lk_L_48 hC (g_recv.obj (ci := 6) rfl (by decide) (show 0 < 102 by decide)) rfl rfl ⟨⟨lb rfl, lb rfl⟩, Nat.le_of_eq (Nat.zero_add _), Nat.le_of_eq (Nat.zero_add _)⟩ (lb rfl) (fun v w1 h => ?_) (fun X w1 h => ?_)
  · rcases h with ⟨y, I1, J1, R1, h1, h2, h3⟩ | ⟨X, I1, h1, h2, h3⟩
    · cases h1
      subst h3
      show g_Wp _ _ _ _ _ _ _ _ _ _ _
      refine w_i2l dL_start_8 ?_
      refine x_last (j := 0) dL_start_9 rfl (by decide) rfl (by decide) ?_
      refine w_goto (tgt := 21) dL_start_10 (by decide) ?_
      refine w_iconst (v := 0) dL_start_21 (by decide) ?_
      refine w_iret dL_start_22 rfl rfl ⟨0, _, _, _, _, rfl, Or.inl ⟨rfl, _, _, ⟨_, rfl, h2⟩, rfl⟩, rfl⟩ (Nat.le_of_eq (Nat.zero_add _)) (Nat.le_of_eq (Nat.zero_add _))
    · cases h1
  · rcases h with ⟨y, I1, J1, R1, h1, h2, h3⟩ | ⟨X2, I1, h1, h2, h3⟩
    · cases h1
    · cases h1
      subst h3
      rcases hX _ _ h2 with rfl | rfl
      · refine w_catch (X := "java/lang/IndexOutOfBoundsException") (a := 161) (b := 165) (by decide +kernel) [] (0, 10, 13, 21) [(0, 10, 17, 13)] rfl (fun z hz => (List.not_mem_nil hz).elim) (by decide) (by decide) cl_L_21 (fun q => ?_)
        refine w_astoreR dL_start_13 (by decide) rfl ?_
        refine w_iconst (v := 1) dL_start_15 (by decide) ?_
        refine w_iret dL_start_16 rfl rfl ⟨1, _, _, _, _, rfl, Or.inr ⟨_, by decide, h2, rfl, rfl⟩, rfl⟩ (Nat.le_of_eq (Nat.zero_add _)) (Nat.le_of_eq (Nat.zero_add _))
      · refine w_catch (X := "java/lang/IllegalArgumentException") (a := 56) (b := 60) (by decide +kernel) [(0, 10, 13, 21)] (0, 10, 17, 13) [] rfl (fun z hz => by rw [List.mem_singleton.mp hz]; exact ⟨by decide, _, cl_L_21, nc_AO⟩) (by decide) (by decide) cl_L_13 (fun q => ?_)
        refine w_astoreR dL_start_17 (by decide) rfl ?_
        refine w_iconst (v := 2) dL_start_19 (by decide) ?_
        refine w_iret dL_start_20 rfl rfl ⟨2, _, _, _, _, rfl, Or.inr ⟨_, by decide, h2, rfl, rfl⟩, rfl⟩ (Nat.le_of_eq (Nat.zero_add _)) (Nat.le_of_eq (Nat.zero_add _))
def cd_isProved : String → Nat := fun X => if X = sIO then 1 else if X = sIA then 2 else 9
set_option maxRecDepth 100000 in
theorem l_isProved {p0 p1 : Int32} {Pv : Int32 → (Nat → Nat → Int32) → (Nat → Nat → Int64) → (Nat → Nat → Option Nat) → Prop} {Px : String → (Nat → Nat → Int32) → Prop} (hC : g_Ct E l mX6_isProved 7 111 mc ms [.ref 0, .int p0, .int p1] (I, J, R, D, 102, ex) (g_cl Pv Px J R D ex)) (hX : ∀ X I1, Px X I1 → X = sIO ∨ X = sIA) (hb : ∀ v I1 J1 R1, Pv v I1 J1 R1 → ∃ b : Bool, v = b2i b) : g_Ct E l mL_isProved 8 135 mc ms [.ref 0, .int p0, .int p1, .ref 100] (I, J, R, D, 102, ex) (g_lw (lwQ cd_isProved (fun v I1 J1 R1 => ∃ b : Bool, v = (if b then 1 else 0) ∧ Pv (b2i b) I1 J1 R1) Px J R) D) := by
  refine g_Ct.of (by decide +kernel) (lb rfl) ?_
  refine w_aload_n dL_isProved_0 rfl ?_
  refine w_iconst (v := 0) dL_isProved_1 (by decide) ?_
  refine w_aload_n dL_isProved_2 rfl ?_
  refine w_iload_n dL_isProved_3 rfl ?_
  refine w_iload_n dL_isProved_4 rfl ?_
  refine w_callV dL_isProved_5 lk_L_51 hC (g_recv.obj (ci := 6) rfl (by decide) (show 0 < 102 by decide)) rfl rfl ⟨⟨lb rfl, lb rfl⟩, Nat.le_of_eq (Nat.zero_add _), Nat.le_of_eq (Nat.zero_add _)⟩ (lb rfl) (fun v w1 h => ?_) (fun X w1 h => ?_)
  · rcases h with ⟨y, I1, J1, R1, h1, h2, h3⟩ | ⟨X, I1, h1, h2, h3⟩
    · cases h1
      subst h3
      obtain ⟨b, rfl⟩ := hb _ _ _ _ h2
      cases b
      · show g_Wp _ _ _ _ _ _ _ _ _ _ _
        refine w_if_eq (tgt := 15) dL_isProved_8 (by decide) (fun c_8 => ?_) (fun c_8 => absurd ((by decide)) c_8)
        refine w_lconst (v := 0) dL_isProved_15 (by decide) ?_
        refine x_last (j := 0) dL_isProved_16 rfl (by decide) rfl (by decide) ?_
        refine w_goto (tgt := 28) dL_isProved_17 (by decide) ?_
        refine w_iconst (v := 0) dL_isProved_28 (by decide) ?_
        refine w_iret dL_isProved_29 rfl rfl ⟨0, _, _, _, _, rfl, Or.inl ⟨rfl, _, _, ⟨false, rfl, h2⟩, rfl⟩, rfl⟩ (Nat.le_of_eq (Nat.zero_add _)) (Nat.le_of_eq (Nat.zero_add _))
      · show g_Wp _ _ _ _ _ _ _ _ _ _ _
        refine w_if_eq (tgt := 15) dL_isProved_8 (by decide) (fun c_8 => absurd c_8 ((by decide))) (fun c_8 => ?_)
        refine w_lconst (v := 1) dL_isProved_11 (by decide) ?_
        refine w_goto (tgt := 16) dL_isProved_12 (by decide) ?_
        refine x_last (j := 0) dL_isProved_16 rfl (by decide) rfl (by decide) ?_
        refine w_goto (tgt := 28) dL_isProved_17 (by decide) ?_
        refine w_iconst (v := 0) dL_isProved_28 (by decide) ?_
        refine w_iret dL_isProved_29 rfl rfl ⟨0, _, _, _, _, rfl, Or.inl ⟨rfl, _, _, ⟨true, rfl, h2⟩, rfl⟩, rfl⟩ (Nat.le_of_eq (Nat.zero_add _)) (Nat.le_of_eq (Nat.zero_add _))
    · cases h1
  · rcases h with ⟨y, I1, J1, R1, h1, h2, h3⟩ | ⟨X2, I1, h1, h2, h3⟩
    · cases h1
    · cases h1
      subst h3
      rcases hX _ _ h2 with rfl | rfl
      · refine w_catch (X := "java/lang/IndexOutOfBoundsException") (a := 161) (b := 165) (by decide +kernel) [] (0, 17, 20, 21) [(0, 17, 24, 13)] rfl (fun z hz => (List.not_mem_nil hz).elim) (by decide) (by decide) cl_L_21 (fun q => ?_)
        refine w_astoreR dL_isProved_20 (by decide) rfl ?_
        refine w_iconst (v := 1) dL_isProved_22 (by decide) ?_
        refine w_iret dL_isProved_23 rfl rfl ⟨1, _, _, _, _, rfl, Or.inr ⟨_, by decide, h2, rfl, rfl⟩, rfl⟩ (Nat.le_of_eq (Nat.zero_add _)) (Nat.le_of_eq (Nat.zero_add _))
      · refine w_catch (X := "java/lang/IllegalArgumentException") (a := 56) (b := 60) (by decide +kernel) [(0, 17, 20, 21)] (0, 17, 24, 13) [] rfl (fun z hz => by rw [List.mem_singleton.mp hz]; exact ⟨by decide, _, cl_L_21, nc_AO⟩) (by decide) (by decide) cl_L_13 (fun q => ?_)
        refine w_astoreR dL_isProved_24 (by decide) rfl ?_
        refine w_iconst (v := 2) dL_isProved_26 (by decide) ?_
        refine w_iret dL_isProved_27 rfl rfl ⟨2, _, _, _, _, rfl, Or.inr ⟨_, by decide, h2, rfl, rfl⟩, rfl⟩ (Nat.le_of_eq (Nat.zero_add _)) (Nat.le_of_eq (Nat.zero_add _))
def cd_heap : String → Nat := fun X => if X = sIO then 1 else if X = sIA then 2 else 9
set_option maxRecDepth 100000 in
theorem l_heap {p0 p1 : Int32} {Pv : Int32 → (Nat → Nat → Int32) → (Nat → Nat → Int64) → (Nat → Nat → Option Nat) → Prop} {Px : String → (Nat → Nat → Int32) → Prop} (hC : g_Ct E l mX6_heap 7 111 mc ms [.ref 0, .int p0, .int p1] (I, J, R, D, 102, ex) (g_cl Pv Px J R D ex)) (hX : ∀ X I1, Px X I1 → X = sIO ∨ X = sIA) : g_Ct E l mL_heap 8 134 mc ms [.ref 0, .int p0, .int p1, .ref 100] (I, J, R, D, 102, ex) (g_lw (lwQ cd_heap (fun v I1 J1 R1 => ∃ y : Int32, v = y.toInt64 ∧ Pv y I1 J1 R1) Px J R) D) := by
  refine g_Ct.of (by decide +kernel) (lb rfl) ?_
  refine w_aload_n dL_heap_0 rfl ?_
  refine w_iconst (v := 0) dL_heap_1 (by decide) ?_
  refine w_aload_n dL_heap_2 rfl ?_
  refine w_iload_n dL_heap_3 rfl ?_
  refine w_iload_n dL_heap_4 rfl ?_
  refine w_callV dL_heap_5 lk_L_55 hC (g_recv.obj (ci := 6) rfl (by decide) (show 0 < 102 by decide)) rfl rfl ⟨⟨lb rfl, lb rfl⟩, Nat.le_of_eq (Nat.zero_add _), Nat.le_of_eq (Nat.zero_add _)⟩ (lb rfl) (fun v w1 h => ?_) (fun X w1 h => ?_)
  · rcases h with ⟨y, I1, J1, R1, h1, h2, h3⟩ | ⟨X, I1, h1, h2, h3⟩
    · cases h1
      subst h3
      show g_Wp _ _ _ _ _ _ _ _ _ _ _
      refine w_i2l dL_heap_8 ?_
      refine x_last (j := 0) dL_heap_9 rfl (by decide) rfl (by decide) ?_
      refine w_goto (tgt := 21) dL_heap_10 (by decide) ?_
      refine w_iconst (v := 0) dL_heap_21 (by decide) ?_
      refine w_iret dL_heap_22 rfl rfl ⟨0, _, _, _, _, rfl, Or.inl ⟨rfl, _, _, ⟨_, rfl, h2⟩, rfl⟩, rfl⟩ (Nat.le_of_eq (Nat.zero_add _)) (Nat.le_of_eq (Nat.zero_add _))
    · cases h1
  · rcases h with ⟨y, I1, J1, R1, h1, h2, h3⟩ | ⟨X2, I1, h1, h2, h3⟩
    · cases h1
    · cases h1
      subst h3
      rcases hX _ _ h2 with rfl | rfl
      · refine w_catch (X := "java/lang/IndexOutOfBoundsException") (a := 161) (b := 165) (by decide +kernel) [] (0, 10, 13, 21) [(0, 10, 17, 13)] rfl (fun z hz => (List.not_mem_nil hz).elim) (by decide) (by decide) cl_L_21 (fun q => ?_)
        refine w_astoreR dL_heap_13 (by decide) rfl ?_
        refine w_iconst (v := 1) dL_heap_15 (by decide) ?_
        refine w_iret dL_heap_16 rfl rfl ⟨1, _, _, _, _, rfl, Or.inr ⟨_, by decide, h2, rfl, rfl⟩, rfl⟩ (Nat.le_of_eq (Nat.zero_add _)) (Nat.le_of_eq (Nat.zero_add _))
      · refine w_catch (X := "java/lang/IllegalArgumentException") (a := 56) (b := 60) (by decide +kernel) [(0, 10, 13, 21)] (0, 10, 17, 13) [] rfl (fun z hz => by rw [List.mem_singleton.mp hz]; exact ⟨by decide, _, cl_L_21, nc_AO⟩) (by decide) (by decide) cl_L_13 (fun q => ?_)
        refine w_astoreR dL_heap_17 (by decide) rfl ?_
        refine w_iconst (v := 2) dL_heap_19 (by decide) ?_
        refine w_iret dL_heap_20 rfl rfl ⟨2, _, _, _, _, rfl, Or.inr ⟨_, by decide, h2, rfl, rfl⟩, rfl⟩ (Nat.le_of_eq (Nat.zero_add _)) (Nat.le_of_eq (Nat.zero_add _))
def cd_move : String → Nat := fun X => if X = sIO then 1 else if X = sIA then 2 else 9
set_option maxRecDepth 100000 in
theorem l_move {p0 p1 : Int32} {Pv : Int32 → (Nat → Nat → Int32) → (Nat → Nat → Int64) → (Nat → Nat → Option Nat) → Prop} {Px : String → (Nat → Nat → Int32) → Prop} (hC : g_Ct E l mX6_move 6 142 mc ms [.ref 0, .int p0, .int p1] (I, J, R, D, 102, ex) (g_cl Pv Px J R D ex)) (hX : ∀ X I1, Px X I1 → X = sIO ∨ X = sIA) : g_Ct E l mL_move 7 165 mc ms [.ref 0, .int p0, .int p1, .ref 100] (I, J, R, D, 102, ex) (g_lw (lwQ cd_move (fun v I1 J1 R1 => ∃ y : Int32, v = y.toInt64 ∧ Pv y I1 J1 R1) Px J R) D) := by
  refine g_Ct.of (by decide +kernel) (lb rfl) ?_
  refine w_aload_n dL_move_0 rfl ?_
  refine w_iconst (v := 0) dL_move_1 (by decide) ?_
  refine w_aload_n dL_move_2 rfl ?_
  refine w_iload_n dL_move_3 rfl ?_
  refine w_iload_n dL_move_4 rfl ?_
  refine w_callV dL_move_5 lk_L_58 hC (g_recv.obj (ci := 6) rfl (by decide) (show 0 < 102 by decide)) rfl rfl ⟨⟨lb rfl, lb rfl⟩, Nat.le_of_eq (Nat.zero_add _), Nat.le_of_eq (Nat.zero_add _)⟩ (lb rfl) (fun v w1 h => ?_) (fun X w1 h => ?_)
  · rcases h with ⟨y, I1, J1, R1, h1, h2, h3⟩ | ⟨X, I1, h1, h2, h3⟩
    · cases h1
      subst h3
      show g_Wp _ _ _ _ _ _ _ _ _ _ _
      refine w_i2l dL_move_8 ?_
      refine x_last (j := 0) dL_move_9 rfl (by decide) rfl (by decide) ?_
      refine w_goto (tgt := 21) dL_move_10 (by decide) ?_
      refine w_iconst (v := 0) dL_move_21 (by decide) ?_
      refine w_iret dL_move_22 rfl rfl ⟨0, _, _, _, _, rfl, Or.inl ⟨rfl, _, _, ⟨_, rfl, h2⟩, rfl⟩, rfl⟩ (Nat.le_of_eq (Nat.zero_add _)) (Nat.le_of_eq (Nat.zero_add _))
    · cases h1
  · rcases h with ⟨y, I1, J1, R1, h1, h2, h3⟩ | ⟨X2, I1, h1, h2, h3⟩
    · cases h1
    · cases h1
      subst h3
      rcases hX _ _ h2 with rfl | rfl
      · refine w_catch (X := "java/lang/IndexOutOfBoundsException") (a := 161) (b := 165) (by decide +kernel) [] (0, 10, 13, 21) [(0, 10, 17, 13)] rfl (fun z hz => (List.not_mem_nil hz).elim) (by decide) (by decide) cl_L_21 (fun q => ?_)
        refine w_astoreR dL_move_13 (by decide) rfl ?_
        refine w_iconst (v := 1) dL_move_15 (by decide) ?_
        refine w_iret dL_move_16 rfl rfl ⟨1, _, _, _, _, rfl, Or.inr ⟨_, by decide, h2, rfl, rfl⟩, rfl⟩ (Nat.le_of_eq (Nat.zero_add _)) (Nat.le_of_eq (Nat.zero_add _))
      · refine w_catch (X := "java/lang/IllegalArgumentException") (a := 56) (b := 60) (by decide +kernel) [(0, 10, 13, 21)] (0, 10, 17, 13) [] rfl (fun z hz => by rw [List.mem_singleton.mp hz]; exact ⟨by decide, _, cl_L_21, nc_AO⟩) (by decide) (by decide) cl_L_13 (fun q => ?_)
        refine w_astoreR dL_move_17 (by decide) rfl ?_
        refine w_iconst (v := 2) dL_move_19 (by decide) ?_
        refine w_iret dL_move_20 rfl rfl ⟨2, _, _, _, _, rfl, Or.inr ⟨_, by decide, h2, rfl, rfl⟩, rfl⟩ (Nat.le_of_eq (Nat.zero_add _)) (Nat.le_of_eq (Nat.zero_add _))
def cd_lostWith : String → Nat := fun X => if X = sIO then 1 else 9
set_option maxRecDepth 100000 in
theorem l_lostWith {p0 : Int32} {Pv : Int32 → (Nat → Nat → Int32) → (Nat → Nat → Int64) → (Nat → Nat → Option Nat) → Prop} {Px : String → (Nat → Nat → Int32) → Prop} (hC : g_Ct E l mX6_lostWith 7 122 mc ms [.ref 0, .int p0] (I, J, R, D, 102, ex) (g_cl Pv Px J R D ex)) (hX : ∀ X I1, Px X I1 → X = sIO) : g_Ct E l mL_lostWith 8 145 mc ms [.ref 0, .int p0, .ref 100] (I, J, R, D, 102, ex) (g_lw (lwQ cd_lostWith (fun v I1 J1 R1 => ∃ y : Int32, v = y.toInt64 ∧ Pv y I1 J1 R1) Px J R) D) := by
  refine g_Ct.of (by decide +kernel) (lb rfl) ?_
  refine w_aload_n dL_lostWith_0 rfl ?_
  refine w_iconst (v := 0) dL_lostWith_1 (by decide) ?_
  refine w_aload_n dL_lostWith_2 rfl ?_
  refine w_iload_n dL_lostWith_3 rfl ?_
  refine w_callV dL_lostWith_4 lk_L_61 hC (g_recv.obj (ci := 6) rfl (by decide) (show 0 < 102 by decide)) rfl rfl ⟨⟨lb rfl, lb rfl⟩, Nat.le_of_eq (Nat.zero_add _), Nat.le_of_eq (Nat.zero_add _)⟩ (lb rfl) (fun v w1 h => ?_) (fun X w1 h => ?_)
  · rcases h with ⟨y, I1, J1, R1, h1, h2, h3⟩ | ⟨X, I1, h1, h2, h3⟩
    · cases h1
      subst h3
      show g_Wp _ _ _ _ _ _ _ _ _ _ _
      refine w_i2l dL_lostWith_7 ?_
      refine x_last (j := 0) dL_lostWith_8 rfl (by decide) rfl (by decide) ?_
      refine w_goto (tgt := 15) dL_lostWith_9 (by decide) ?_
      refine w_iconst (v := 0) dL_lostWith_15 (by decide) ?_
      refine w_iret dL_lostWith_16 rfl rfl ⟨0, _, _, _, _, rfl, Or.inl ⟨rfl, _, _, ⟨_, rfl, h2⟩, rfl⟩, rfl⟩ (Nat.le_of_eq (Nat.zero_add _)) (Nat.le_of_eq (Nat.zero_add _))
    · cases h1
  · rcases h with ⟨y, I1, J1, R1, h1, h2, h3⟩ | ⟨X2, I1, h1, h2, h3⟩
    · cases h1
    · cases h1
      subst h3
      rcases hX _ _ h2 with rfl
      · refine w_catch (X := "java/lang/IndexOutOfBoundsException") (a := 161) (b := 165) (by decide +kernel) [] (0, 9, 12, 21) [] rfl (fun z hz => (List.not_mem_nil hz).elim) (by decide) (by decide) cl_L_21 (fun q => ?_)
        refine w_astoreR_n dL_lostWith_12 (by decide) rfl ?_
        refine w_iconst (v := 1) dL_lostWith_13 (by decide) ?_
        refine w_iret dL_lostWith_14 rfl rfl ⟨1, _, _, _, _, rfl, Or.inr ⟨_, by decide, h2, rfl, rfl⟩, rfl⟩ (Nat.le_of_eq (Nat.zero_add _)) (Nat.le_of_eq (Nat.zero_add _))
def cd_played : String → Nat := fun X => if X = sIO then 1 else if X = sIA then 2 else 9
set_option maxRecDepth 100000 in
theorem l_played {p0 p1 : Int32} {Pv : Int32 → (Nat → Nat → Int32) → (Nat → Nat → Int64) → (Nat → Nat → Option Nat) → Prop} {Px : String → (Nat → Nat → Int32) → Prop} (hC : g_Ct E l mX6_played 6 90 mc ms [.ref 0, .int p0, .int p1] (I, J, R, D, 102, ex) (g_cl Pv Px J R D ex)) (hX : ∀ X I1, Px X I1 → X = sIO ∨ X = sIA) : g_Ct E l mL_played 7 112 mc ms [.ref 0, .int p0, .int p1, .ref 100] (I, J, R, D, 102, ex) (g_lw (lwQ cd_played (fun v I1 J1 R1 => ∃ y : Int32, v = y.toInt64 ∧ Pv y I1 J1 R1) Px J R) D) := by
  refine g_Ct.of (by decide +kernel) (lb rfl) ?_
  refine w_aload_n dL_played_0 rfl ?_
  refine w_iconst (v := 0) dL_played_1 (by decide) ?_
  refine w_aload_n dL_played_2 rfl ?_
  refine w_iload_n dL_played_3 rfl ?_
  refine w_iload_n dL_played_4 rfl ?_
  refine w_callV dL_played_5 lk_L_64 hC (g_recv.obj (ci := 6) rfl (by decide) (show 0 < 102 by decide)) rfl rfl ⟨⟨lb rfl, lb rfl⟩, Nat.le_of_eq (Nat.zero_add _), Nat.le_of_eq (Nat.zero_add _)⟩ (lb rfl) (fun v w1 h => ?_) (fun X w1 h => ?_)
  · rcases h with ⟨y, I1, J1, R1, h1, h2, h3⟩ | ⟨X, I1, h1, h2, h3⟩
    · cases h1
      subst h3
      show g_Wp _ _ _ _ _ _ _ _ _ _ _
      refine w_i2l dL_played_8 ?_
      refine x_last (j := 0) dL_played_9 rfl (by decide) rfl (by decide) ?_
      refine w_goto (tgt := 21) dL_played_10 (by decide) ?_
      refine w_iconst (v := 0) dL_played_21 (by decide) ?_
      refine w_iret dL_played_22 rfl rfl ⟨0, _, _, _, _, rfl, Or.inl ⟨rfl, _, _, ⟨_, rfl, h2⟩, rfl⟩, rfl⟩ (Nat.le_of_eq (Nat.zero_add _)) (Nat.le_of_eq (Nat.zero_add _))
    · cases h1
  · rcases h with ⟨y, I1, J1, R1, h1, h2, h3⟩ | ⟨X2, I1, h1, h2, h3⟩
    · cases h1
    · cases h1
      subst h3
      rcases hX _ _ h2 with rfl | rfl
      · refine w_catch (X := "java/lang/IndexOutOfBoundsException") (a := 161) (b := 165) (by decide +kernel) [] (0, 10, 13, 21) [(0, 10, 17, 13)] rfl (fun z hz => (List.not_mem_nil hz).elim) (by decide) (by decide) cl_L_21 (fun q => ?_)
        refine w_astoreR dL_played_13 (by decide) rfl ?_
        refine w_iconst (v := 1) dL_played_15 (by decide) ?_
        refine w_iret dL_played_16 rfl rfl ⟨1, _, _, _, _, rfl, Or.inr ⟨_, by decide, h2, rfl, rfl⟩, rfl⟩ (Nat.le_of_eq (Nat.zero_add _)) (Nat.le_of_eq (Nat.zero_add _))
      · refine w_catch (X := "java/lang/IllegalArgumentException") (a := 56) (b := 60) (by decide +kernel) [(0, 10, 13, 21)] (0, 10, 17, 13) [] rfl (fun z hz => by rw [List.mem_singleton.mp hz]; exact ⟨by decide, _, cl_L_21, nc_AO⟩) (by decide) (by decide) cl_L_13 (fun q => ?_)
        refine w_astoreR dL_played_17 (by decide) rfl ?_
        refine w_iconst (v := 2) dL_played_19 (by decide) ?_
        refine w_iret dL_played_20 rfl rfl ⟨2, _, _, _, _, rfl, Or.inr ⟨_, by decide, h2, rfl, rfl⟩, rfl⟩ (Nat.le_of_eq (Nat.zero_add _)) (Nat.le_of_eq (Nat.zero_add _))
def cd_take : String → Nat := fun X => if X = sIO then 1 else if X = sIA then 2 else 9
set_option maxRecDepth 100000 in
theorem l_take {p0 p1 : Int32} {Pv : Int32 → (Nat → Nat → Int32) → (Nat → Nat → Int64) → (Nat → Nat → Option Nat) → Prop} {Px : String → (Nat → Nat → Int32) → Prop} (hC : g_Ct E l mX6_take 7 123 mc ms [.ref 0, .int p0, .int p1] (I, J, R, D, 102, ex) (g_cl Pv Px J R D ex)) (hX : ∀ X I1, Px X I1 → X = sIO ∨ X = sIA) : g_Ct E l mL_take 8 145 mc ms [.ref 0, .int p0, .int p1, .ref 100] (I, J, R, D, 102, ex) (g_lw (lwQ cd_take (fun v I1 J1 R1 => ∃ y : Int32, v = y.toInt64 ∧ Pv y I1 J1 R1) Px J R) D) := by
  refine g_Ct.of (by decide +kernel) (lb rfl) ?_
  refine w_aload_n dL_take_0 rfl ?_
  refine w_iconst (v := 0) dL_take_1 (by decide) ?_
  refine w_aload_n dL_take_2 rfl ?_
  refine w_iload_n dL_take_3 rfl ?_
  refine w_iload_n dL_take_4 rfl ?_
  refine w_callV dL_take_5 lk_L_67 hC (g_recv.obj (ci := 6) rfl (by decide) (show 0 < 102 by decide)) rfl rfl ⟨⟨lb rfl, lb rfl⟩, Nat.le_of_eq (Nat.zero_add _), Nat.le_of_eq (Nat.zero_add _)⟩ (lb rfl) (fun v w1 h => ?_) (fun X w1 h => ?_)
  · rcases h with ⟨y, I1, J1, R1, h1, h2, h3⟩ | ⟨X, I1, h1, h2, h3⟩
    · cases h1
      subst h3
      show g_Wp _ _ _ _ _ _ _ _ _ _ _
      refine w_i2l dL_take_8 ?_
      refine x_last (j := 0) dL_take_9 rfl (by decide) rfl (by decide) ?_
      refine w_goto (tgt := 21) dL_take_10 (by decide) ?_
      refine w_iconst (v := 0) dL_take_21 (by decide) ?_
      refine w_iret dL_take_22 rfl rfl ⟨0, _, _, _, _, rfl, Or.inl ⟨rfl, _, _, ⟨_, rfl, h2⟩, rfl⟩, rfl⟩ (Nat.le_of_eq (Nat.zero_add _)) (Nat.le_of_eq (Nat.zero_add _))
    · cases h1
  · rcases h with ⟨y, I1, J1, R1, h1, h2, h3⟩ | ⟨X2, I1, h1, h2, h3⟩
    · cases h1
    · cases h1
      subst h3
      rcases hX _ _ h2 with rfl | rfl
      · refine w_catch (X := "java/lang/IndexOutOfBoundsException") (a := 161) (b := 165) (by decide +kernel) [] (0, 10, 13, 21) [(0, 10, 17, 13)] rfl (fun z hz => (List.not_mem_nil hz).elim) (by decide) (by decide) cl_L_21 (fun q => ?_)
        refine w_astoreR dL_take_13 (by decide) rfl ?_
        refine w_iconst (v := 1) dL_take_15 (by decide) ?_
        refine w_iret dL_take_16 rfl rfl ⟨1, _, _, _, _, rfl, Or.inr ⟨_, by decide, h2, rfl, rfl⟩, rfl⟩ (Nat.le_of_eq (Nat.zero_add _)) (Nat.le_of_eq (Nat.zero_add _))
      · refine w_catch (X := "java/lang/IllegalArgumentException") (a := 56) (b := 60) (by decide +kernel) [(0, 10, 13, 21)] (0, 10, 17, 13) [] rfl (fun z hz => by rw [List.mem_singleton.mp hz]; exact ⟨by decide, _, cl_L_21, nc_AO⟩) (by decide) (by decide) cl_L_13 (fun q => ?_)
        refine w_astoreR dL_take_17 (by decide) rfl ?_
        refine w_iconst (v := 2) dL_take_19 (by decide) ?_
        refine w_iret dL_take_20 rfl rfl ⟨2, _, _, _, _, rfl, Or.inr ⟨_, by decide, h2, rfl, rfl⟩, rfl⟩ (Nat.le_of_eq (Nat.zero_add _)) (Nat.le_of_eq (Nat.zero_add _))
def cd_takeBoth : String → Nat := fun X => if X = sIO then 1 else if X = sIA then 2 else 9
set_option maxRecDepth 100000 in
theorem l_takeBoth {p0 p1 p2 : Int32} {Pv : Int32 → (Nat → Nat → Int32) → (Nat → Nat → Int64) → (Nat → Nat → Option Nat) → Prop} {Px : String → (Nat → Nat → Int32) → Prop} (hC : g_Ct E l mX6_takeBoth 7 123 mc ms [.ref 0, .int p0, .int p1, .int p2] (I, J, R, D, 102, ex) (g_cl Pv Px J R D ex)) (hX : ∀ X I1, Px X I1 → X = sIO ∨ X = sIA) : g_Ct E l mL_takeBoth 8 146 mc ms [.ref 0, .int p0, .int p1, .int p2, .ref 100] (I, J, R, D, 102, ex) (g_lw (lwQ cd_takeBoth (fun v I1 J1 R1 => ∃ y : Int32, v = y.toInt64 ∧ Pv y I1 J1 R1) Px J R) D) := by
  refine g_Ct.of (by decide +kernel) (lb rfl) ?_
  refine w_aload dL_takeBoth_0 rfl ?_
  refine w_iconst (v := 0) dL_takeBoth_2 (by decide) ?_
  refine w_aload_n dL_takeBoth_3 rfl ?_
  refine w_iload_n dL_takeBoth_4 rfl ?_
  refine w_iload_n dL_takeBoth_5 rfl ?_
  refine w_iload_n dL_takeBoth_6 rfl ?_
  refine w_callV dL_takeBoth_7 lk_L_70 hC (g_recv.obj (ci := 6) rfl (by decide) (show 0 < 102 by decide)) rfl rfl ⟨⟨lb rfl, lb rfl⟩, Nat.le_of_eq (Nat.zero_add _), Nat.le_of_eq (Nat.zero_add _)⟩ (lb rfl) (fun v w1 h => ?_) (fun X w1 h => ?_)
  · rcases h with ⟨y, I1, J1, R1, h1, h2, h3⟩ | ⟨X, I1, h1, h2, h3⟩
    · cases h1
      subst h3
      show g_Wp _ _ _ _ _ _ _ _ _ _ _
      refine w_i2l dL_takeBoth_10 ?_
      refine x_last (j := 0) dL_takeBoth_11 rfl (by decide) rfl (by decide) ?_
      refine w_goto (tgt := 23) dL_takeBoth_12 (by decide) ?_
      refine w_iconst (v := 0) dL_takeBoth_23 (by decide) ?_
      refine w_iret dL_takeBoth_24 rfl rfl ⟨0, _, _, _, _, rfl, Or.inl ⟨rfl, _, _, ⟨_, rfl, h2⟩, rfl⟩, rfl⟩ (Nat.le_of_eq (Nat.zero_add _)) (Nat.le_of_eq (Nat.zero_add _))
    · cases h1
  · rcases h with ⟨y, I1, J1, R1, h1, h2, h3⟩ | ⟨X2, I1, h1, h2, h3⟩
    · cases h1
    · cases h1
      subst h3
      rcases hX _ _ h2 with rfl | rfl
      · refine w_catch (X := "java/lang/IndexOutOfBoundsException") (a := 161) (b := 165) (by decide +kernel) [] (0, 12, 15, 21) [(0, 12, 19, 13)] rfl (fun z hz => (List.not_mem_nil hz).elim) (by decide) (by decide) cl_L_21 (fun q => ?_)
        refine w_astoreR dL_takeBoth_15 (by decide) rfl ?_
        refine w_iconst (v := 1) dL_takeBoth_17 (by decide) ?_
        refine w_iret dL_takeBoth_18 rfl rfl ⟨1, _, _, _, _, rfl, Or.inr ⟨_, by decide, h2, rfl, rfl⟩, rfl⟩ (Nat.le_of_eq (Nat.zero_add _)) (Nat.le_of_eq (Nat.zero_add _))
      · refine w_catch (X := "java/lang/IllegalArgumentException") (a := 56) (b := 60) (by decide +kernel) [(0, 12, 15, 21)] (0, 12, 19, 13) [] rfl (fun z hz => by rw [List.mem_singleton.mp hz]; exact ⟨by decide, _, cl_L_21, nc_AO⟩) (by decide) (by decide) cl_L_13 (fun q => ?_)
        refine w_astoreR dL_takeBoth_19 (by decide) rfl ?_
        refine w_iconst (v := 2) dL_takeBoth_21 (by decide) ?_
        refine w_iret dL_takeBoth_22 rfl rfl ⟨2, _, _, _, _, rfl, Or.inr ⟨_, by decide, h2, rfl, rfl⟩, rfl⟩ (Nat.le_of_eq (Nat.zero_add _)) (Nat.le_of_eq (Nat.zero_add _))
def cd_pass : String → Nat := fun X => if X = sIS then 1 else 9
set_option maxRecDepth 100000 in
theorem l_pass {Pv : Int32 → (Nat → Nat → Int32) → (Nat → Nat → Int64) → (Nat → Nat → Option Nat) → Prop} {Px : String → (Nat → Nat → Int32) → Prop} (hC : g_Ct E l mX6_pass 6 123 mc ms [.ref 0] (I, J, R, D, 102, ex) (g_cl Pv Px J R D ex)) (hX : ∀ X I1, Px X I1 → X = sIS) : g_Ct E l mL_pass 7 143 mc ms [.ref 0, .ref 100] (I, J, R, D, 102, ex) (g_lw (lwQ cd_pass (fun v I1 J1 R1 => ∃ y : Int32, v = y.toInt64 ∧ Pv y I1 J1 R1) Px J R) D) := by
  refine g_Ct.of (by decide +kernel) (lb rfl) ?_
  refine w_aload_n dL_pass_0 rfl ?_
  refine w_iconst (v := 0) dL_pass_1 (by decide) ?_
  refine w_aload_n dL_pass_2 rfl ?_
  refine w_callV dL_pass_3 lk_L_73 hC (g_recv.obj (ci := 6) rfl (by decide) (show 0 < 102 by decide)) rfl rfl ⟨⟨lb rfl, lb rfl⟩, Nat.le_of_eq (Nat.zero_add _), Nat.le_of_eq (Nat.zero_add _)⟩ (lb rfl) (fun v w1 h => ?_) (fun X w1 h => ?_)
  · rcases h with ⟨y, I1, J1, R1, h1, h2, h3⟩ | ⟨X, I1, h1, h2, h3⟩
    · cases h1
      subst h3
      show g_Wp _ _ _ _ _ _ _ _ _ _ _
      refine w_i2l dL_pass_6 ?_
      refine x_last (j := 0) dL_pass_7 rfl (by decide) rfl (by decide) ?_
      refine w_goto (tgt := 14) dL_pass_8 (by decide) ?_
      refine w_iconst (v := 0) dL_pass_14 (by decide) ?_
      refine w_iret dL_pass_15 rfl rfl ⟨0, _, _, _, _, rfl, Or.inl ⟨rfl, _, _, ⟨_, rfl, h2⟩, rfl⟩, rfl⟩ (Nat.le_of_eq (Nat.zero_add _)) (Nat.le_of_eq (Nat.zero_add _))
    · cases h1
  · rcases h with ⟨y, I1, J1, R1, h1, h2, h3⟩ | ⟨X2, I1, h1, h2, h3⟩
    · cases h1
    · cases h1
      subst h3
      rcases hX _ _ h2 with rfl
      · refine w_catch (X := "java/lang/IllegalStateException") (a := 254) (b := 258) (by decide +kernel) [] (0, 8, 11, 77) [] rfl (fun z hz => (List.not_mem_nil hz).elim) (by decide) (by decide) cl_L_77 (fun q => ?_)
        refine w_astoreR_n dL_pass_11 (by decide) rfl ?_
        refine w_iconst (v := 1) dL_pass_12 (by decide) ?_
        refine w_iret dL_pass_13 rfl rfl ⟨1, _, _, _, _, rfl, Or.inr ⟨_, by decide, h2, rfl, rfl⟩, rfl⟩ (Nat.le_of_eq (Nat.zero_add _)) (Nat.le_of_eq (Nat.zero_add _))
def cd_play : String → Nat := fun X => if X = sIS then 1 else 9
set_option maxRecDepth 100000 in
theorem l_play {Pv : Int32 → (Nat → Nat → Int32) → (Nat → Nat → Int64) → (Nat → Nat → Option Nat) → Prop} {Px : String → (Nat → Nat → Int32) → Prop} (hC : g_Ct E l mX6_play 6 142 mc ms [.ref 0] (I, J, R, D, 102, ex) (g_cl Pv Px J R D ex)) (hX : ∀ X I1, Px X I1 → X = sIS) : g_Ct E l mL_play 7 163 mc ms [.ref 0, .ref 100] (I, J, R, D, 102, ex) (g_lw (lwQ cd_play (fun v I1 J1 R1 => ∃ y : Int32, v = y.toInt64 ∧ Pv y I1 J1 R1) Px J R) D) := by
  refine g_Ct.of (by decide +kernel) (lb rfl) ?_
  refine w_aload_n dL_play_0 rfl ?_
  refine w_iconst (v := 0) dL_play_1 (by decide) ?_
  refine w_aload_n dL_play_2 rfl ?_
  refine w_callV dL_play_3 lk_L_79 hC (g_recv.obj (ci := 6) rfl (by decide) (show 0 < 102 by decide)) rfl rfl ⟨⟨lb rfl, lb rfl⟩, Nat.le_of_eq (Nat.zero_add _), Nat.le_of_eq (Nat.zero_add _)⟩ (lb rfl) (fun v w1 h => ?_) (fun X w1 h => ?_)
  · rcases h with ⟨y, I1, J1, R1, h1, h2, h3⟩ | ⟨X, I1, h1, h2, h3⟩
    · cases h1
      subst h3
      show g_Wp _ _ _ _ _ _ _ _ _ _ _
      refine w_i2l dL_play_6 ?_
      refine x_last (j := 0) dL_play_7 rfl (by decide) rfl (by decide) ?_
      refine w_goto (tgt := 14) dL_play_8 (by decide) ?_
      refine w_iconst (v := 0) dL_play_14 (by decide) ?_
      refine w_iret dL_play_15 rfl rfl ⟨0, _, _, _, _, rfl, Or.inl ⟨rfl, _, _, ⟨_, rfl, h2⟩, rfl⟩, rfl⟩ (Nat.le_of_eq (Nat.zero_add _)) (Nat.le_of_eq (Nat.zero_add _))
    · cases h1
  · rcases h with ⟨y, I1, J1, R1, h1, h2, h3⟩ | ⟨X2, I1, h1, h2, h3⟩
    · cases h1
    · cases h1
      subst h3
      rcases hX _ _ h2 with rfl
      · refine w_catch (X := "java/lang/IllegalStateException") (a := 254) (b := 258) (by decide +kernel) [] (0, 8, 11, 77) [] rfl (fun z hz => (List.not_mem_nil hz).elim) (by decide) (by decide) cl_L_77 (fun q => ?_)
        refine w_astoreR_n dL_play_11 (by decide) rfl ?_
        refine w_iconst (v := 1) dL_play_12 (by decide) ?_
        refine w_iret dL_play_13 rfl rfl ⟨1, _, _, _, _, rfl, Or.inr ⟨_, by decide, h2, rfl, rfl⟩, rfl⟩ (Nat.le_of_eq (Nat.zero_add _)) (Nat.le_of_eq (Nat.zero_add _))
def cd_setSize : String → Nat := fun X => if X = sIO then 1 else if X = sIA then 2 else 9
set_option maxRecDepth 100000 in
theorem l_setSize {p0 p1 : Int32} {Pv : Int32 → (Nat → Nat → Int32) → (Nat → Nat → Int64) → (Nat → Nat → Option Nat) → Prop} {Px : String → (Nat → Nat → Int32) → Prop} (hC : g_Ct E l mX6_setSize 7 111 mc ms [.ref 0, .int p0, .int p1] (I, J, R, D, 102, ex) (g_cl Pv Px J R D ex)) (hX : ∀ X I1, Px X I1 → X = sIO ∨ X = sIA) : g_Ct E l mL_setSize 8 134 mc ms [.ref 0, .int p0, .int p1, .ref 100] (I, J, R, D, 102, ex) (g_lw (lwQ cd_setSize (fun v I1 J1 R1 => ∃ y : Int32, v = y.toInt64 ∧ Pv y I1 J1 R1) Px J R) D) := by
  refine g_Ct.of (by decide +kernel) (lb rfl) ?_
  refine w_aload_n dL_setSize_0 rfl ?_
  refine w_iconst (v := 0) dL_setSize_1 (by decide) ?_
  refine w_aload_n dL_setSize_2 rfl ?_
  refine w_iload_n dL_setSize_3 rfl ?_
  refine w_iload_n dL_setSize_4 rfl ?_
  refine w_callV dL_setSize_5 lk_L_82 hC (g_recv.obj (ci := 6) rfl (by decide) (show 0 < 102 by decide)) rfl rfl ⟨⟨lb rfl, lb rfl⟩, Nat.le_of_eq (Nat.zero_add _), Nat.le_of_eq (Nat.zero_add _)⟩ (lb rfl) (fun v w1 h => ?_) (fun X w1 h => ?_)
  · rcases h with ⟨y, I1, J1, R1, h1, h2, h3⟩ | ⟨X, I1, h1, h2, h3⟩
    · cases h1
      subst h3
      show g_Wp _ _ _ _ _ _ _ _ _ _ _
      refine w_i2l dL_setSize_8 ?_
      refine x_last (j := 0) dL_setSize_9 rfl (by decide) rfl (by decide) ?_
      refine w_goto (tgt := 21) dL_setSize_10 (by decide) ?_
      refine w_iconst (v := 0) dL_setSize_21 (by decide) ?_
      refine w_iret dL_setSize_22 rfl rfl ⟨0, _, _, _, _, rfl, Or.inl ⟨rfl, _, _, ⟨_, rfl, h2⟩, rfl⟩, rfl⟩ (Nat.le_of_eq (Nat.zero_add _)) (Nat.le_of_eq (Nat.zero_add _))
    · cases h1
  · rcases h with ⟨y, I1, J1, R1, h1, h2, h3⟩ | ⟨X2, I1, h1, h2, h3⟩
    · cases h1
    · cases h1
      subst h3
      rcases hX _ _ h2 with rfl | rfl
      · refine w_catch (X := "java/lang/IndexOutOfBoundsException") (a := 161) (b := 165) (by decide +kernel) [] (0, 10, 13, 21) [(0, 10, 17, 13)] rfl (fun z hz => (List.not_mem_nil hz).elim) (by decide) (by decide) cl_L_21 (fun q => ?_)
        refine w_astoreR dL_setSize_13 (by decide) rfl ?_
        refine w_iconst (v := 1) dL_setSize_15 (by decide) ?_
        refine w_iret dL_setSize_16 rfl rfl ⟨1, _, _, _, _, rfl, Or.inr ⟨_, by decide, h2, rfl, rfl⟩, rfl⟩ (Nat.le_of_eq (Nat.zero_add _)) (Nat.le_of_eq (Nat.zero_add _))
      · refine w_catch (X := "java/lang/IllegalArgumentException") (a := 56) (b := 60) (by decide +kernel) [(0, 10, 13, 21)] (0, 10, 17, 13) [] rfl (fun z hz => by rw [List.mem_singleton.mp hz]; exact ⟨by decide, _, cl_L_21, nc_AO⟩) (by decide) (by decide) cl_L_13 (fun q => ?_)
        refine w_astoreR dL_setSize_17 (by decide) rfl ?_
        refine w_iconst (v := 2) dL_setSize_19 (by decide) ?_
        refine w_iret dL_setSize_20 rfl rfl ⟨2, _, _, _, _, rfl, Or.inr ⟨_, by decide, h2, rfl, rfl⟩, rfl⟩ (Nat.le_of_eq (Nat.zero_add _)) (Nat.le_of_eq (Nat.zero_add _))
def cd_setPasses : String → Nat := fun X => if X = sIA then 1 else 9
set_option maxRecDepth 100000 in
theorem l_setPasses {p0 : Int32} {Pv : Int32 → (Nat → Nat → Int32) → (Nat → Nat → Int64) → (Nat → Nat → Option Nat) → Prop} {Px : String → (Nat → Nat → Int32) → Prop} (hC : g_Ct E l mX6_setPasses 6 102 mc ms [.ref 0, .int p0] (I, J, R, D, 102, ex) (g_cl Pv Px J R D ex)) (hX : ∀ X I1, Px X I1 → X = sIA) : g_Ct E l mL_setPasses 7 124 mc ms [.ref 0, .int p0, .ref 100] (I, J, R, D, 102, ex) (g_lw (lwQ cd_setPasses (fun v I1 J1 R1 => ∃ y : Int32, v = y.toInt64 ∧ Pv y I1 J1 R1) Px J R) D) := by
  refine g_Ct.of (by decide +kernel) (lb rfl) ?_
  refine w_aload_n dL_setPasses_0 rfl ?_
  refine w_iconst (v := 0) dL_setPasses_1 (by decide) ?_
  refine w_aload_n dL_setPasses_2 rfl ?_
  refine w_iload_n dL_setPasses_3 rfl ?_
  refine w_callV dL_setPasses_4 lk_L_85 hC (g_recv.obj (ci := 6) rfl (by decide) (show 0 < 102 by decide)) rfl rfl ⟨⟨lb rfl, lb rfl⟩, Nat.le_of_eq (Nat.zero_add _), Nat.le_of_eq (Nat.zero_add _)⟩ (lb rfl) (fun v w1 h => ?_) (fun X w1 h => ?_)
  · rcases h with ⟨y, I1, J1, R1, h1, h2, h3⟩ | ⟨X, I1, h1, h2, h3⟩
    · cases h1
      subst h3
      show g_Wp _ _ _ _ _ _ _ _ _ _ _
      refine w_i2l dL_setPasses_7 ?_
      refine x_last (j := 0) dL_setPasses_8 rfl (by decide) rfl (by decide) ?_
      refine w_goto (tgt := 15) dL_setPasses_9 (by decide) ?_
      refine w_iconst (v := 0) dL_setPasses_15 (by decide) ?_
      refine w_iret dL_setPasses_16 rfl rfl ⟨0, _, _, _, _, rfl, Or.inl ⟨rfl, _, _, ⟨_, rfl, h2⟩, rfl⟩, rfl⟩ (Nat.le_of_eq (Nat.zero_add _)) (Nat.le_of_eq (Nat.zero_add _))
    · cases h1
  · rcases h with ⟨y, I1, J1, R1, h1, h2, h3⟩ | ⟨X2, I1, h1, h2, h3⟩
    · cases h1
    · cases h1
      subst h3
      rcases hX _ _ h2 with rfl
      · refine w_catch (X := "java/lang/IllegalArgumentException") (a := 56) (b := 60) (by decide +kernel) [] (0, 9, 12, 13) [] rfl (fun z hz => (List.not_mem_nil hz).elim) (by decide) (by decide) cl_L_13 (fun q => ?_)
        refine w_astoreR_n dL_setPasses_12 (by decide) rfl ?_
        refine w_iconst (v := 1) dL_setPasses_13 (by decide) ?_
        refine w_iret dL_setPasses_14 rfl rfl ⟨1, _, _, _, _, rfl, Or.inr ⟨_, by decide, h2, rfl, rfl⟩, rfl⟩ (Nat.le_of_eq (Nat.zero_add _)) (Nat.le_of_eq (Nat.zero_add _))
def cd_addHeap : String → Nat := fun X => if X = sIO then 1 else if X = sIA then 2 else if X = sIS then 3 else 9
set_option maxRecDepth 100000 in
theorem l_addHeap {p0 p1 : Int32} {Pv : Int32 → (Nat → Nat → Int32) → (Nat → Nat → Int64) → (Nat → Nat → Option Nat) → Prop} {Px : String → (Nat → Nat → Int32) → Prop} (hC : g_Ct E l mX6_addHeap 7 111 mc ms [.ref 0, .int p0, .int p1] (I, J, R, D, 102, ex) (g_cl Pv Px J R D ex)) (hX : ∀ X I1, Px X I1 → X = sIO ∨ X = sIA ∨ X = sIS) : g_Ct E l mL_addHeap 8 133 mc ms [.ref 0, .int p0, .int p1, .ref 100] (I, J, R, D, 102, ex) (g_lw (lwQ cd_addHeap (fun v I1 J1 R1 => ∃ y : Int32, v = y.toInt64 ∧ Pv y I1 J1 R1) Px J R) D) := by
  refine g_Ct.of (by decide +kernel) (lb rfl) ?_
  refine w_aload_n dL_addHeap_0 rfl ?_
  refine w_iconst (v := 0) dL_addHeap_1 (by decide) ?_
  refine w_aload_n dL_addHeap_2 rfl ?_
  refine w_iload_n dL_addHeap_3 rfl ?_
  refine w_iload_n dL_addHeap_4 rfl ?_
  refine w_callV dL_addHeap_5 lk_L_88 hC (g_recv.obj (ci := 6) rfl (by decide) (show 0 < 102 by decide)) rfl rfl ⟨⟨lb rfl, lb rfl⟩, Nat.le_of_eq (Nat.zero_add _), Nat.le_of_eq (Nat.zero_add _)⟩ (lb rfl) (fun v w1 h => ?_) (fun X w1 h => ?_)
  · rcases h with ⟨y, I1, J1, R1, h1, h2, h3⟩ | ⟨X, I1, h1, h2, h3⟩
    · cases h1
      subst h3
      show g_Wp _ _ _ _ _ _ _ _ _ _ _
      refine w_i2l dL_addHeap_8 ?_
      refine x_last (j := 0) dL_addHeap_9 rfl (by decide) rfl (by decide) ?_
      refine w_goto (tgt := 25) dL_addHeap_10 (by decide) ?_
      refine w_iconst (v := 0) dL_addHeap_25 (by decide) ?_
      refine w_iret dL_addHeap_26 rfl rfl ⟨0, _, _, _, _, rfl, Or.inl ⟨rfl, _, _, ⟨_, rfl, h2⟩, rfl⟩, rfl⟩ (Nat.le_of_eq (Nat.zero_add _)) (Nat.le_of_eq (Nat.zero_add _))
    · cases h1
  · rcases h with ⟨y, I1, J1, R1, h1, h2, h3⟩ | ⟨X2, I1, h1, h2, h3⟩
    · cases h1
    · cases h1
      subst h3
      rcases hX _ _ h2 with rfl | rfl | rfl
      · refine w_catch (X := "java/lang/IndexOutOfBoundsException") (a := 161) (b := 165) (by decide +kernel) [] (0, 10, 13, 21) [(0, 10, 17, 13), (0, 10, 21, 77)] rfl (fun z hz => (List.not_mem_nil hz).elim) (by decide) (by decide) cl_L_21 (fun q => ?_)
        refine w_astoreR dL_addHeap_13 (by decide) rfl ?_
        refine w_iconst (v := 1) dL_addHeap_15 (by decide) ?_
        refine w_iret dL_addHeap_16 rfl rfl ⟨1, _, _, _, _, rfl, Or.inr ⟨_, by decide, h2, rfl, rfl⟩, rfl⟩ (Nat.le_of_eq (Nat.zero_add _)) (Nat.le_of_eq (Nat.zero_add _))
      · refine w_catch (X := "java/lang/IllegalArgumentException") (a := 56) (b := 60) (by decide +kernel) [(0, 10, 13, 21)] (0, 10, 17, 13) [(0, 10, 21, 77)] rfl (fun z hz => by rw [List.mem_singleton.mp hz]; exact ⟨by decide, _, cl_L_21, nc_AO⟩) (by decide) (by decide) cl_L_13 (fun q => ?_)
        refine w_astoreR dL_addHeap_17 (by decide) rfl ?_
        refine w_iconst (v := 2) dL_addHeap_19 (by decide) ?_
        refine w_iret dL_addHeap_20 rfl rfl ⟨2, _, _, _, _, rfl, Or.inr ⟨_, by decide, h2, rfl, rfl⟩, rfl⟩ (Nat.le_of_eq (Nat.zero_add _)) (Nat.le_of_eq (Nat.zero_add _))
      · refine w_catch (X := "java/lang/IllegalStateException") (a := 254) (b := 258) (by decide +kernel) [(0, 10, 13, 21), (0, 10, 17, 13)] (0, 10, 21, 77) [] rfl (fun z hz => by rcases List.mem_cons.mp hz with q | q; (rw [q]; exact ⟨by decide, _, cl_L_21, nc_SO⟩); (rw [List.mem_singleton.mp q]; exact ⟨by decide, _, cl_L_13, nc_SA⟩)) (by decide) (by decide) cl_L_77 (fun q => ?_)
        refine w_astoreR dL_addHeap_21 (by decide) rfl ?_
        refine w_iconst (v := 3) dL_addHeap_23 (by decide) ?_
        refine w_iret dL_addHeap_24 rfl rfl ⟨3, _, _, _, _, rfl, Or.inr ⟨_, by decide, h2, rfl, rfl⟩, rfl⟩ (Nat.le_of_eq (Nat.zero_add _)) (Nat.le_of_eq (Nat.zero_add _))
def cd_removeHeap : String → Nat := fun X => if X = sIO then 1 else 9
set_option maxRecDepth 100000 in
theorem l_removeHeap {p0 : Int32} {Pv : Int32 → (Nat → Nat → Int32) → (Nat → Nat → Int64) → (Nat → Nat → Option Nat) → Prop} {Px : String → (Nat → Nat → Int32) → Prop} (hC : g_Ct E l mX6_removeHeap 7 111 mc ms [.ref 0, .int p0] (I, J, R, D, 102, ex) (g_cl Pv Px J R D ex)) (hX : ∀ X I1, Px X I1 → X = sIO) : g_Ct E l mL_removeHeap 8 132 mc ms [.ref 0, .int p0, .ref 100] (I, J, R, D, 102, ex) (g_lw (lwQ cd_removeHeap (fun v I1 J1 R1 => ∃ y : Int32, v = y.toInt64 ∧ Pv y I1 J1 R1) Px J R) D) := by
  refine g_Ct.of (by decide +kernel) (lb rfl) ?_
  refine w_aload_n dL_removeHeap_0 rfl ?_
  refine w_iconst (v := 0) dL_removeHeap_1 (by decide) ?_
  refine w_aload_n dL_removeHeap_2 rfl ?_
  refine w_iload_n dL_removeHeap_3 rfl ?_
  refine w_callV dL_removeHeap_4 lk_L_91 hC (g_recv.obj (ci := 6) rfl (by decide) (show 0 < 102 by decide)) rfl rfl ⟨⟨lb rfl, lb rfl⟩, Nat.le_of_eq (Nat.zero_add _), Nat.le_of_eq (Nat.zero_add _)⟩ (lb rfl) (fun v w1 h => ?_) (fun X w1 h => ?_)
  · rcases h with ⟨y, I1, J1, R1, h1, h2, h3⟩ | ⟨X, I1, h1, h2, h3⟩
    · cases h1
      subst h3
      show g_Wp _ _ _ _ _ _ _ _ _ _ _
      refine w_i2l dL_removeHeap_7 ?_
      refine x_last (j := 0) dL_removeHeap_8 rfl (by decide) rfl (by decide) ?_
      refine w_goto (tgt := 15) dL_removeHeap_9 (by decide) ?_
      refine w_iconst (v := 0) dL_removeHeap_15 (by decide) ?_
      refine w_iret dL_removeHeap_16 rfl rfl ⟨0, _, _, _, _, rfl, Or.inl ⟨rfl, _, _, ⟨_, rfl, h2⟩, rfl⟩, rfl⟩ (Nat.le_of_eq (Nat.zero_add _)) (Nat.le_of_eq (Nat.zero_add _))
    · cases h1
  · rcases h with ⟨y, I1, J1, R1, h1, h2, h3⟩ | ⟨X2, I1, h1, h2, h3⟩
    · cases h1
    · cases h1
      subst h3
      rcases hX _ _ h2 with rfl
      · refine w_catch (X := "java/lang/IndexOutOfBoundsException") (a := 161) (b := 165) (by decide +kernel) [] (0, 9, 12, 21) [] rfl (fun z hz => (List.not_mem_nil hz).elim) (by decide) (by decide) cl_L_21 (fun q => ?_)
        refine w_astoreR_n dL_removeHeap_12 (by decide) rfl ?_
        refine w_iconst (v := 1) dL_removeHeap_13 (by decide) ?_
        refine w_iret dL_removeHeap_14 rfl rfl ⟨1, _, _, _, _, rfl, Or.inr ⟨_, by decide, h2, rfl, rfl⟩, rfl⟩ (Nat.le_of_eq (Nat.zero_add _)) (Nat.le_of_eq (Nat.zero_add _))
def cd_saveSnapshot : String → Nat := fun X => if X = sIA then 1 else 9
set_option maxRecDepth 100000 in
theorem l_saveSnapshot {p0 : Int32} {Pv : Int32 → (Nat → Nat → Int32) → (Nat → Nat → Int64) → (Nat → Nat → Option Nat) → Prop} {Px : String → (Nat → Nat → Int32) → Prop} (hC : g_Ct E l mX6_saveSnapshot 7 110 mc ms [.ref 0, .int p0] (I, J, R, D, 102, ex) (g_cl Pv Px J R D ex)) (hX : ∀ X I1, Px X I1 → X = sIA) (hb : ∀ v I1 J1 R1, Pv v I1 J1 R1 → ∃ b : Bool, v = b2i b) : g_Ct E l mL_saveSnapshot 8 132 mc ms [.ref 0, .int p0, .ref 100] (I, J, R, D, 102, ex) (g_lw (lwQ cd_saveSnapshot (fun v I1 J1 R1 => ∃ b : Bool, v = (if b then 1 else 0) ∧ Pv (b2i b) I1 J1 R1) Px J R) D) := by
  refine g_Ct.of (by decide +kernel) (lb rfl) ?_
  refine w_aload_n dL_saveSnapshot_0 rfl ?_
  refine w_iconst (v := 0) dL_saveSnapshot_1 (by decide) ?_
  refine w_aload_n dL_saveSnapshot_2 rfl ?_
  refine w_iload_n dL_saveSnapshot_3 rfl ?_
  refine w_callV dL_saveSnapshot_4 lk_L_94 hC (g_recv.obj (ci := 6) rfl (by decide) (show 0 < 102 by decide)) rfl rfl ⟨⟨lb rfl, lb rfl⟩, Nat.le_of_eq (Nat.zero_add _), Nat.le_of_eq (Nat.zero_add _)⟩ (lb rfl) (fun v w1 h => ?_) (fun X w1 h => ?_)
  · rcases h with ⟨y, I1, J1, R1, h1, h2, h3⟩ | ⟨X, I1, h1, h2, h3⟩
    · cases h1
      subst h3
      obtain ⟨b, rfl⟩ := hb _ _ _ _ h2
      cases b
      · show g_Wp _ _ _ _ _ _ _ _ _ _ _
        refine w_if_eq (tgt := 14) dL_saveSnapshot_7 (by decide) (fun c_7 => ?_) (fun c_7 => absurd ((by decide)) c_7)
        refine w_lconst (v := 0) dL_saveSnapshot_14 (by decide) ?_
        refine x_last (j := 0) dL_saveSnapshot_15 rfl (by decide) rfl (by decide) ?_
        refine w_goto (tgt := 22) dL_saveSnapshot_16 (by decide) ?_
        refine w_iconst (v := 0) dL_saveSnapshot_22 (by decide) ?_
        refine w_iret dL_saveSnapshot_23 rfl rfl ⟨0, _, _, _, _, rfl, Or.inl ⟨rfl, _, _, ⟨false, rfl, h2⟩, rfl⟩, rfl⟩ (Nat.le_of_eq (Nat.zero_add _)) (Nat.le_of_eq (Nat.zero_add _))
      · show g_Wp _ _ _ _ _ _ _ _ _ _ _
        refine w_if_eq (tgt := 14) dL_saveSnapshot_7 (by decide) (fun c_7 => absurd c_7 ((by decide))) (fun c_7 => ?_)
        refine w_lconst (v := 1) dL_saveSnapshot_10 (by decide) ?_
        refine w_goto (tgt := 15) dL_saveSnapshot_11 (by decide) ?_
        refine x_last (j := 0) dL_saveSnapshot_15 rfl (by decide) rfl (by decide) ?_
        refine w_goto (tgt := 22) dL_saveSnapshot_16 (by decide) ?_
        refine w_iconst (v := 0) dL_saveSnapshot_22 (by decide) ?_
        refine w_iret dL_saveSnapshot_23 rfl rfl ⟨0, _, _, _, _, rfl, Or.inl ⟨rfl, _, _, ⟨true, rfl, h2⟩, rfl⟩, rfl⟩ (Nat.le_of_eq (Nat.zero_add _)) (Nat.le_of_eq (Nat.zero_add _))
    · cases h1
  · rcases h with ⟨y, I1, J1, R1, h1, h2, h3⟩ | ⟨X2, I1, h1, h2, h3⟩
    · cases h1
    · cases h1
      subst h3
      rcases hX _ _ h2 with rfl
      · refine w_catch (X := "java/lang/IllegalArgumentException") (a := 56) (b := 60) (by decide +kernel) [] (0, 16, 19, 13) [] rfl (fun z hz => (List.not_mem_nil hz).elim) (by decide) (by decide) cl_L_13 (fun q => ?_)
        refine w_astoreR_n dL_saveSnapshot_19 (by decide) rfl ?_
        refine w_iconst (v := 1) dL_saveSnapshot_20 (by decide) ?_
        refine w_iret dL_saveSnapshot_21 rfl rfl ⟨1, _, _, _, _, rfl, Or.inr ⟨_, by decide, h2, rfl, rfl⟩, rfl⟩ (Nat.le_of_eq (Nat.zero_add _)) (Nat.le_of_eq (Nat.zero_add _))
def cd_restoreSnapshot : String → Nat := fun X => if X = sIA then 1 else if X = sIS then 2 else 9
set_option maxRecDepth 100000 in
theorem l_restoreSnapshot {p0 : Int32} {Pv : Int32 → (Nat → Nat → Int32) → (Nat → Nat → Int64) → (Nat → Nat → Option Nat) → Prop} {Px : String → (Nat → Nat → Int32) → Prop} (hC : g_Ct E l mX6_restoreSnapshot 7 110 mc ms [.ref 0, .int p0] (I, J, R, D, 102, ex) (g_cl Pv Px J R D ex)) (hX : ∀ X I1, Px X I1 → X = sIA ∨ X = sIS) : g_Ct E l mL_restoreSnapshot 8 131 mc ms [.ref 0, .int p0, .ref 100] (I, J, R, D, 102, ex) (g_lw (lwQ cd_restoreSnapshot (fun v I1 J1 R1 => ∃ y : Int32, v = y.toInt64 ∧ Pv y I1 J1 R1) Px J R) D) := by
  refine g_Ct.of (by decide +kernel) (lb rfl) ?_
  refine w_aload_n dL_restoreSnapshot_0 rfl ?_
  refine w_iconst (v := 0) dL_restoreSnapshot_1 (by decide) ?_
  refine w_aload_n dL_restoreSnapshot_2 rfl ?_
  refine w_iload_n dL_restoreSnapshot_3 rfl ?_
  refine w_callV dL_restoreSnapshot_4 lk_L_98 hC (g_recv.obj (ci := 6) rfl (by decide) (show 0 < 102 by decide)) rfl rfl ⟨⟨lb rfl, lb rfl⟩, Nat.le_of_eq (Nat.zero_add _), Nat.le_of_eq (Nat.zero_add _)⟩ (lb rfl) (fun v w1 h => ?_) (fun X w1 h => ?_)
  · rcases h with ⟨y, I1, J1, R1, h1, h2, h3⟩ | ⟨X, I1, h1, h2, h3⟩
    · cases h1
      subst h3
      show g_Wp _ _ _ _ _ _ _ _ _ _ _
      refine w_i2l dL_restoreSnapshot_7 ?_
      refine x_last (j := 0) dL_restoreSnapshot_8 rfl (by decide) rfl (by decide) ?_
      refine w_goto (tgt := 18) dL_restoreSnapshot_9 (by decide) ?_
      refine w_iconst (v := 0) dL_restoreSnapshot_18 (by decide) ?_
      refine w_iret dL_restoreSnapshot_19 rfl rfl ⟨0, _, _, _, _, rfl, Or.inl ⟨rfl, _, _, ⟨_, rfl, h2⟩, rfl⟩, rfl⟩ (Nat.le_of_eq (Nat.zero_add _)) (Nat.le_of_eq (Nat.zero_add _))
    · cases h1
  · rcases h with ⟨y, I1, J1, R1, h1, h2, h3⟩ | ⟨X2, I1, h1, h2, h3⟩
    · cases h1
    · cases h1
      subst h3
      rcases hX _ _ h2 with rfl | rfl
      · refine w_catch (X := "java/lang/IllegalArgumentException") (a := 56) (b := 60) (by decide +kernel) [] (0, 9, 12, 13) [(0, 9, 15, 77)] rfl (fun z hz => (List.not_mem_nil hz).elim) (by decide) (by decide) cl_L_13 (fun q => ?_)
        refine w_astoreR_n dL_restoreSnapshot_12 (by decide) rfl ?_
        refine w_iconst (v := 1) dL_restoreSnapshot_13 (by decide) ?_
        refine w_iret dL_restoreSnapshot_14 rfl rfl ⟨1, _, _, _, _, rfl, Or.inr ⟨_, by decide, h2, rfl, rfl⟩, rfl⟩ (Nat.le_of_eq (Nat.zero_add _)) (Nat.le_of_eq (Nat.zero_add _))
      · refine w_catch (X := "java/lang/IllegalStateException") (a := 254) (b := 258) (by decide +kernel) [(0, 9, 12, 13)] (0, 9, 15, 77) [] rfl (fun z hz => by rw [List.mem_singleton.mp hz]; exact ⟨by decide, _, cl_L_13, nc_SA⟩) (by decide) (by decide) cl_L_77 (fun q => ?_)
        refine w_astoreR_n dL_restoreSnapshot_15 (by decide) rfl ?_
        refine w_iconst (v := 2) dL_restoreSnapshot_16 (by decide) ?_
        refine w_iret dL_restoreSnapshot_17 rfl rfl ⟨2, _, _, _, _, rfl, Or.inr ⟨_, by decide, h2, rfl, rfl⟩, rfl⟩ (Nat.le_of_eq (Nat.zero_add _)) (Nat.le_of_eq (Nat.zero_add _))
end LW
