/-! SPEC of tokens; HeapGames$TextReader: tokens -/
def sx (x : Nat) : Int32 := (nI x).toInt8.toInt32
theorem sx_32 : ∀ x, x < 256 → (sx x = 32 ↔ x = 32) := by decide +kernel
theorem sx_59 : ∀ x, x < 256 → (sx x = 59 ↔ x = 59) := by decide +kernel
theorem sx_97 : ∀ x, x < 256 → (sx x < 97 ↔ (x < 97 ∨ 128 ≤ x)) := by decide +kernel
theorem sx_122 : ∀ x, x < 256 → (122 < sx x ↔ (122 < x ∧ x < 128)) := by decide +kernel
theorem sx_48 : ∀ x, x < 256 → (sx x < 48 ↔ (x < 48 ∨ 128 ≤ x)) := by decide +kernel
theorem sx_57 : ∀ x, x < 256 → (57 < sx x ↔ (57 < x ∧ x < 128)) := by decide +kernel
theorem sx_lo : ∀ x, x < 128 → sx x = nI x := by decide +kernel
def kb (tx : Nat → Nat) (L i : Nat) : Nat := if i < L then (if 97 ≤ tx i ∧ tx i ≤ 122 then 1 else if 48 ≤ tx i ∧ tx i ≤ 57 then 2 else if tx i = 59 then 3 else 4) else 0
def skp (tx : Nat → Nat) (L : Nat) : Nat → Nat → Nat
  | 0, i => i
  | f + 1, i => if tx i = 32 then skp tx L f (i + 1) else i
def runE (tx : Nat → Nat) (L k : Nat) : Nat → Nat → Nat
  | 0, i => i
  | f + 1, i => if kb tx L i = k then runE tx L k f (i + 1) else i
def tkS (tx : Nat → Nat) (L at0 : Nat) : Nat := skp tx L (L - at0) at0
def tkK (tx : Nat → Nat) (L at0 : Nat) : Nat := kb tx L (tkS tx L at0)
def tkE (tx : Nat → Nat) (L at0 : Nat) : Nat := if tkK tx L at0 = 0 then tkS tx L at0 else if tkK tx L at0 = 1 ∨ tkK tx L at0 = 2 then runE tx L (tkK tx L at0) (L - (tkS tx L at0 + 1)) (tkS tx L at0 + 1) else tkS tx L at0 + 1
theorem skp_b (tx : Nat → Nat) (L : Nat) : ∀ f i, i ≤ skp tx L f i ∧ skp tx L f i ≤ i + f
  | 0, i => ⟨Nat.le_refl _, Nat.le_refl _⟩
  | f + 1, i => by
    rw [skp]
    split
    · have := skp_b tx L f (i + 1); omega
    · omega
theorem runE_b (tx : Nat → Nat) (L k : Nat) : ∀ f i, i ≤ runE tx L k f i ∧ runE tx L k f i ≤ i + f
  | 0, i => ⟨Nat.le_refl _, Nat.le_refl _⟩
  | f + 1, i => by
    rw [runE]
    split
    · have := runE_b tx L k f (i + 1); omega
    · omega
theorem kb_0 {tx : Nat → Nat} {L i : Nat} : kb tx L i = 0 ↔ L ≤ i := by
  unfold kb
  split
  · constructor
    · intro h; exfalso; revert h; repeat' split
      all_goals omega
    · intro h; omega
  · constructor
    · intro _; omega
    · intro _; rfl
theorem kb_le (tx : Nat → Nat) (L i : Nat) : kb tx L i ≤ 4 := by unfold kb; repeat' split
                                                                 all_goals omega
theorem tk_b {tx : Nat → Nat} {L a : Nat} (h : a ≤ L) : a ≤ tkS tx L a ∧ tkS tx L a ≤ L ∧ tkS tx L a ≤ tkE tx L a ∧ tkE tx L a ≤ L ∧ (tkK tx L a ≠ 0 → tkS tx L a < tkE tx L a) := by
  have h1 := skp_b tx L (L - a) a
  have h2 : a ≤ tkS tx L a ∧ tkS tx L a ≤ L := by unfold tkS; omega
  have h3 : tkK tx L a = 0 ↔ L ≤ tkS tx L a := kb_0
  have h4 := runE_b tx L (tkK tx L a) (L - (tkS tx L a + 1)) (tkS tx L a + 1)
  unfold tkE
  split
  · omega
  · split <;> omega
def rdC (I : Nat → Nat → Int32) (tx : Nat → Nat) (L : Nat) : Prop := I 23 2 = nI L ∧ L ≤ 400 ∧ ∀ i, i < L → tx i < 256 ∧ I 24 i = sx (tx i)
def tkC (I : Nat → Nat → Int32) (tx : Nat → Nat) (L a : Nat) : Prop := I 23 3 = nI (tkS tx L a) ∧ I 23 4 = nI (tkE tx L a) ∧ I 23 5 = nI (tkK tx L a)
def frK (I I' : Nat → Nat → Int32) : Prop := (∀ o, o ≠ 23 → I' o = I o) ∧ ∀ k, k ≠ 3 → k ≠ 4 → k ≠ 5 → I' 23 k = I 23 k
theorem rdC.fr {I I' : Nat → Nat → Int32} {tx : Nat → Nat} {L : Nat} (h : rdC I tx L) (f : frK I I') : rdC I' tx L := ⟨by rw [f.2 2 (by decide) (by decide) (by decide)]; exact h.1, h.2.1, fun i hi => by rw [f.1 24 (by decide)]; exact h.2.2 i hi⟩
section TK
variable (E : GE) (l : Launch)
variable {I : Nat → Nat → Int32} {J : Nat → Nat → Int64} {R : Nat → Nat → Option Nat} {D : Nat → Nat → UInt64} {N : Nat} {ex : Bool} {tx : Nat → Nat} {L : Nat}
set_option maxRecDepth 100000 in
theorem c_byteAt (hR : R 23 0 = some 24) (hN : 24 < N) (hr : rdC I tx L) {i : Nat} (hi : i < L) : g_Ct E l mX5_byteAt 0 0 0 0 [.ref 23, .int (nI i)] (I, J, R, D, N, ex) (g_is (some (.int (sx (tx i)))) (I, J, R, D, N, ex)) := by
  refine g_Ct.of (by decide +kernel) (lb rfl) ?_
  have hL := hr.2.1
  refine w_iload_n dX5_byteAt_0 rfl ?_
  refine w_if_lt (tgt := 22) dX5_byteAt_1 (by decide) (fun c_1 => absurd c_1 ((nI_pos (by omega)))) (fun c_1 => ?_)
  refine w_iload_n dX5_byteAt_4 rfl ?_
  refine w_aload_n dX5_byteAt_5 rfl ?_
  refine x_getr (ci := 5) (k := 0) (a := 24) dX5_byteAt_6 rfl (by decide) (by decide) (by omega) fl_X5_9 (Or.inr ⟨_, rfl⟩) hR ?_
  refine x_alen (c := 11) (L := 400) dX5_byteAt_9 rfl (by decide) (by decide) hN ?_
  refine w_icmp_ge (tgt := 22) dX5_byteAt_10 (by decide) (fun c_10 => absurd c_10 ((nI_ge (a := i) (b := 400) (by omega) (by omega)))) (fun c_10 => ?_)
  refine w_aload_n dX5_byteAt_13 rfl ?_
  refine x_getr (ci := 5) (k := 0) (a := 24) dX5_byteAt_14 rfl (by decide) (by decide) (by omega) fl_X5_9 (Or.inr ⟨_, rfl⟩) hR ?_
  refine w_iload_n dX5_byteAt_17 rfl ?_
  refine x_bald (j := i) dX5_byteAt_18 rfl hN rfl (show i < 400 by omega) ?_
  rw [(hr.2.2 i hi).2]
  refine w_goto (tgt := 23) dX5_byteAt_19 (by decide) ?_
  refine w_iret dX5_byteAt_23 rfl rfl ⟨rfl, rfl⟩ (by decide) (by decide)
set_option maxRecDepth 100000 in
theorem c_kindOfByte (hR : R 23 0 = some 24) (hN : 24 < N) (hr : rdC I tx L) {i : Nat} (hi : i ≤ L) : g_Ct E l mX5_kindOfByte 0 0 0 0 [.ref 23, .int (nI i)] (I, J, R, D, N, ex) (g_is (some (.int (nI (kb tx L i)))) (I, J, R, D, N, ex)) := by
  refine g_Ct.of (by decide +kernel) (lb rfl) ?_
  have hL := hr.2.1
  by_cases hil : i < L
  · obtain ⟨h256, hb⟩ := hr.2.2 i hil
    refine w_iload_n dX5_kindOfByte_0 rfl ?_
    refine w_if_lt (tgt := 21) dX5_kindOfByte_1 (by decide) (fun c_1 => absurd c_1 ((nI_pos (by omega)))) (fun c_1 => ?_)
    refine w_iload_n dX5_kindOfByte_4 rfl ?_
    refine w_aload_n dX5_kindOfByte_5 rfl ?_
    refine x_geti (ci := 5) (k := 2) dX5_kindOfByte_6 rfl (by decide) (by decide) (by omega) fl_X5_32 rfl ?_
    rw [hr.1]
    refine w_icmp_ge (tgt := 21) dX5_kindOfByte_9 (by decide) (fun c_9 => absurd c_9 ((nI_ge (by omega) (by omega)))) (fun c_9 => ?_)
    refine w_iload_n dX5_kindOfByte_12 rfl ?_
    refine w_aload_n dX5_kindOfByte_13 rfl ?_
    refine x_getr (ci := 5) (k := 0) (a := 24) dX5_kindOfByte_14 rfl (by decide) (by decide) (by omega) fl_X5_9 (Or.inr ⟨_, rfl⟩) hR ?_
    refine x_alen (c := 11) (L := 400) dX5_kindOfByte_17 rfl (by decide) (by decide) hN ?_
    refine w_icmp_lt (tgt := 23) dX5_kindOfByte_18 (by decide) (fun c_18 => ?_) (fun c_18 => absurd ((nI_lt (a := i) (b := 400) (by omega) (by omega))) c_18)
    refine w_aload_n dX5_kindOfByte_23 rfl ?_
    refine x_getr (ci := 5) (k := 0) (a := 24) dX5_kindOfByte_24 rfl (by decide) (by decide) (by omega) fl_X5_9 (Or.inr ⟨_, rfl⟩) hR ?_
    refine w_iload_n dX5_kindOfByte_27 rfl ?_
    refine x_bald (j := i) dX5_kindOfByte_28 rfl hN rfl (show i < 400 by omega) ?_
    rw [hb]
    refine w_istore_n dX5_kindOfByte_29 (by decide) rfl ?_
    refine w_iload_n dX5_kindOfByte_30 rfl ?_
    refine w_bipush (v := 97) dX5_kindOfByte_31 (by decide) ?_
    refine w_icmp_lt (tgt := 44) dX5_kindOfByte_33 (by decide) (fun c_33 => ?_) (fun c_33 => ?_)
    · refine w_iload_n dX5_kindOfByte_44 rfl ?_
      refine w_bipush (v := 48) dX5_kindOfByte_45 (by decide) ?_
      refine w_icmp_lt (tgt := 58) dX5_kindOfByte_47 (by decide) (fun c_47 => ?_) (fun c_47 => ?_)
      · refine w_iload_n dX5_kindOfByte_58 rfl ?_
        refine w_bipush (v := 59) dX5_kindOfByte_59 (by decide) ?_
        refine w_icmp_ne (tgt := 68) dX5_kindOfByte_61 (by decide) (fun c_61 => ?_) (fun c_61 => ?_)
        · refine w_iconst (v := 4) dX5_kindOfByte_68 (by decide) ?_
          refine w_iret dX5_kindOfByte_69 rfl rfl (by have b1 : ¬ (97 ≤ tx i ∧ tx i ≤ 122) := (by first | (have := (sx_97 _ h256).mp c_33; omega) | (have := (sx_122 _ h256).mp c_39; omega)); have b2 : ¬ (48 ≤ tx i ∧ tx i ≤ 57) := (by first | (have := (sx_48 _ h256).mp c_47; omega) | (have := (sx_57 _ h256).mp c_53; omega)); first | exact ⟨rt_i (by unfold kb; rw [if_pos hil, if_neg b1, if_neg b2, if_pos ((sx_59 _ h256).mp c_61)]; rfl), rfl⟩ | exact ⟨rt_i (by unfold kb; rw [if_pos hil, if_neg b1, if_neg b2, if_neg (fun q => c_61 ((sx_59 _ h256).mpr q))]; rfl), rfl⟩) (by decide) (by decide)
        · refine w_iconst (v := 3) dX5_kindOfByte_64 (by decide) ?_
          refine w_goto (tgt := 69) dX5_kindOfByte_65 (by decide) ?_
          refine w_iret dX5_kindOfByte_69 rfl rfl (by have b1 : ¬ (97 ≤ tx i ∧ tx i ≤ 122) := (by first | (have := (sx_97 _ h256).mp c_33; omega) | (have := (sx_122 _ h256).mp c_39; omega)); have b2 : ¬ (48 ≤ tx i ∧ tx i ≤ 57) := (by first | (have := (sx_48 _ h256).mp c_47; omega) | (have := (sx_57 _ h256).mp c_53; omega)); first | exact ⟨rt_i (by unfold kb; rw [if_pos hil, if_neg b1, if_neg b2, if_pos ((sx_59 _ h256).mp c_61)]; rfl), rfl⟩ | exact ⟨rt_i (by unfold kb; rw [if_pos hil, if_neg b1, if_neg b2, if_neg (fun q => c_61 ((sx_59 _ h256).mpr q))]; rfl), rfl⟩) (by decide) (by decide)
      · refine w_iload_n dX5_kindOfByte_50 rfl ?_
        refine w_bipush (v := 57) dX5_kindOfByte_51 (by decide) ?_
        refine w_icmp_gt (tgt := 58) dX5_kindOfByte_53 (by decide) (fun c_53 => ?_) (fun c_53 => ?_)
        · refine w_iload_n dX5_kindOfByte_58 rfl ?_
          refine w_bipush (v := 59) dX5_kindOfByte_59 (by decide) ?_
          refine w_icmp_ne (tgt := 68) dX5_kindOfByte_61 (by decide) (fun c_61 => ?_) (fun c_61 => ?_)
          · refine w_iconst (v := 4) dX5_kindOfByte_68 (by decide) ?_
            refine w_iret dX5_kindOfByte_69 rfl rfl (by have b1 : ¬ (97 ≤ tx i ∧ tx i ≤ 122) := (by first | (have := (sx_97 _ h256).mp c_33; omega) | (have := (sx_122 _ h256).mp c_39; omega)); have b2 : ¬ (48 ≤ tx i ∧ tx i ≤ 57) := (by first | (have := (sx_48 _ h256).mp c_47; omega) | (have := (sx_57 _ h256).mp c_53; omega)); first | exact ⟨rt_i (by unfold kb; rw [if_pos hil, if_neg b1, if_neg b2, if_pos ((sx_59 _ h256).mp c_61)]; rfl), rfl⟩ | exact ⟨rt_i (by unfold kb; rw [if_pos hil, if_neg b1, if_neg b2, if_neg (fun q => c_61 ((sx_59 _ h256).mpr q))]; rfl), rfl⟩) (by decide) (by decide)
          · refine w_iconst (v := 3) dX5_kindOfByte_64 (by decide) ?_
            refine w_goto (tgt := 69) dX5_kindOfByte_65 (by decide) ?_
            refine w_iret dX5_kindOfByte_69 rfl rfl (by have b1 : ¬ (97 ≤ tx i ∧ tx i ≤ 122) := (by first | (have := (sx_97 _ h256).mp c_33; omega) | (have := (sx_122 _ h256).mp c_39; omega)); have b2 : ¬ (48 ≤ tx i ∧ tx i ≤ 57) := (by first | (have := (sx_48 _ h256).mp c_47; omega) | (have := (sx_57 _ h256).mp c_53; omega)); first | exact ⟨rt_i (by unfold kb; rw [if_pos hil, if_neg b1, if_neg b2, if_pos ((sx_59 _ h256).mp c_61)]; rfl), rfl⟩ | exact ⟨rt_i (by unfold kb; rw [if_pos hil, if_neg b1, if_neg b2, if_neg (fun q => c_61 ((sx_59 _ h256).mpr q))]; rfl), rfl⟩) (by decide) (by decide)
        · refine w_iconst (v := 2) dX5_kindOfByte_56 (by decide) ?_
          refine w_iret dX5_kindOfByte_57 rfl rfl (by have a1 := mt (sx_48 _ h256).mpr c_47; have a2 := mt (sx_57 _ h256).mpr c_53; exact ⟨rt_i (by unfold kb; rw [if_pos hil, if_neg (by omega), if_pos (by omega)]; rfl), rfl⟩) (by decide) (by decide)
    · refine w_iload_n dX5_kindOfByte_36 rfl ?_
      refine w_bipush (v := 122) dX5_kindOfByte_37 (by decide) ?_
      refine w_icmp_gt (tgt := 44) dX5_kindOfByte_39 (by decide) (fun c_39 => ?_) (fun c_39 => ?_)
      · refine w_iload_n dX5_kindOfByte_44 rfl ?_
        refine w_bipush (v := 48) dX5_kindOfByte_45 (by decide) ?_
        refine w_icmp_lt (tgt := 58) dX5_kindOfByte_47 (by decide) (fun c_47 => ?_) (fun c_47 => ?_)
        · refine w_iload_n dX5_kindOfByte_58 rfl ?_
          refine w_bipush (v := 59) dX5_kindOfByte_59 (by decide) ?_
          refine w_icmp_ne (tgt := 68) dX5_kindOfByte_61 (by decide) (fun c_61 => ?_) (fun c_61 => ?_)
          · refine w_iconst (v := 4) dX5_kindOfByte_68 (by decide) ?_
            refine w_iret dX5_kindOfByte_69 rfl rfl (by have b1 : ¬ (97 ≤ tx i ∧ tx i ≤ 122) := (by first | (have := (sx_97 _ h256).mp c_33; omega) | (have := (sx_122 _ h256).mp c_39; omega)); have b2 : ¬ (48 ≤ tx i ∧ tx i ≤ 57) := (by first | (have := (sx_48 _ h256).mp c_47; omega) | (have := (sx_57 _ h256).mp c_53; omega)); first | exact ⟨rt_i (by unfold kb; rw [if_pos hil, if_neg b1, if_neg b2, if_pos ((sx_59 _ h256).mp c_61)]; rfl), rfl⟩ | exact ⟨rt_i (by unfold kb; rw [if_pos hil, if_neg b1, if_neg b2, if_neg (fun q => c_61 ((sx_59 _ h256).mpr q))]; rfl), rfl⟩) (by decide) (by decide)
          · refine w_iconst (v := 3) dX5_kindOfByte_64 (by decide) ?_
            refine w_goto (tgt := 69) dX5_kindOfByte_65 (by decide) ?_
            refine w_iret dX5_kindOfByte_69 rfl rfl (by have b1 : ¬ (97 ≤ tx i ∧ tx i ≤ 122) := (by first | (have := (sx_97 _ h256).mp c_33; omega) | (have := (sx_122 _ h256).mp c_39; omega)); have b2 : ¬ (48 ≤ tx i ∧ tx i ≤ 57) := (by first | (have := (sx_48 _ h256).mp c_47; omega) | (have := (sx_57 _ h256).mp c_53; omega)); first | exact ⟨rt_i (by unfold kb; rw [if_pos hil, if_neg b1, if_neg b2, if_pos ((sx_59 _ h256).mp c_61)]; rfl), rfl⟩ | exact ⟨rt_i (by unfold kb; rw [if_pos hil, if_neg b1, if_neg b2, if_neg (fun q => c_61 ((sx_59 _ h256).mpr q))]; rfl), rfl⟩) (by decide) (by decide)
        · refine w_iload_n dX5_kindOfByte_50 rfl ?_
          refine w_bipush (v := 57) dX5_kindOfByte_51 (by decide) ?_
          refine w_icmp_gt (tgt := 58) dX5_kindOfByte_53 (by decide) (fun c_53 => ?_) (fun c_53 => ?_)
          · refine w_iload_n dX5_kindOfByte_58 rfl ?_
            refine w_bipush (v := 59) dX5_kindOfByte_59 (by decide) ?_
            refine w_icmp_ne (tgt := 68) dX5_kindOfByte_61 (by decide) (fun c_61 => ?_) (fun c_61 => ?_)
            · refine w_iconst (v := 4) dX5_kindOfByte_68 (by decide) ?_
              refine w_iret dX5_kindOfByte_69 rfl rfl (by have b1 : ¬ (97 ≤ tx i ∧ tx i ≤ 122) := (by first | (have := (sx_97 _ h256).mp c_33; omega) | (have := (sx_122 _ h256).mp c_39; omega)); have b2 : ¬ (48 ≤ tx i ∧ tx i ≤ 57) := (by first | (have := (sx_48 _ h256).mp c_47; omega) | (have := (sx_57 _ h256).mp c_53; omega)); first | exact ⟨rt_i (by unfold kb; rw [if_pos hil, if_neg b1, if_neg b2, if_pos ((sx_59 _ h256).mp c_61)]; rfl), rfl⟩ | exact ⟨rt_i (by unfold kb; rw [if_pos hil, if_neg b1, if_neg b2, if_neg (fun q => c_61 ((sx_59 _ h256).mpr q))]; rfl), rfl⟩) (by decide) (by decide)
            · refine w_iconst (v := 3) dX5_kindOfByte_64 (by decide) ?_
              refine w_goto (tgt := 69) dX5_kindOfByte_65 (by decide) ?_
              refine w_iret dX5_kindOfByte_69 rfl rfl (by have b1 : ¬ (97 ≤ tx i ∧ tx i ≤ 122) := (by first | (have := (sx_97 _ h256).mp c_33; omega) | (have := (sx_122 _ h256).mp c_39; omega)); have b2 : ¬ (48 ≤ tx i ∧ tx i ≤ 57) := (by first | (have := (sx_48 _ h256).mp c_47; omega) | (have := (sx_57 _ h256).mp c_53; omega)); first | exact ⟨rt_i (by unfold kb; rw [if_pos hil, if_neg b1, if_neg b2, if_pos ((sx_59 _ h256).mp c_61)]; rfl), rfl⟩ | exact ⟨rt_i (by unfold kb; rw [if_pos hil, if_neg b1, if_neg b2, if_neg (fun q => c_61 ((sx_59 _ h256).mpr q))]; rfl), rfl⟩) (by decide) (by decide)
          · refine w_iconst (v := 2) dX5_kindOfByte_56 (by decide) ?_
            refine w_iret dX5_kindOfByte_57 rfl rfl (by have a1 := mt (sx_48 _ h256).mpr c_47; have a2 := mt (sx_57 _ h256).mpr c_53; exact ⟨rt_i (by unfold kb; rw [if_pos hil, if_neg (by omega), if_pos (by omega)]; rfl), rfl⟩) (by decide) (by decide)
      · refine w_iconst (v := 1) dX5_kindOfByte_42 (by decide) ?_
        refine w_iret dX5_kindOfByte_43 rfl rfl ⟨rt_i (by have a1 := mt (sx_97 _ h256).mpr c_33; have a2 := mt (sx_122 _ h256).mpr c_39; unfold kb; rw [if_pos hil, if_pos (by omega)]; rfl), rfl⟩ (by decide) (by decide)
  · refine w_iload_n dX5_kindOfByte_0 rfl ?_
    refine w_if_lt (tgt := 21) dX5_kindOfByte_1 (by decide) (fun c_1 => absurd c_1 ((nI_pos (by omega)))) (fun c_1 => ?_)
    refine w_iload_n dX5_kindOfByte_4 rfl ?_
    refine w_aload_n dX5_kindOfByte_5 rfl ?_
    refine x_geti (ci := 5) (k := 2) dX5_kindOfByte_6 rfl (by decide) (by decide) (by omega) fl_X5_32 rfl ?_
    rw [hr.1]
    refine w_icmp_ge (tgt := 21) dX5_kindOfByte_9 (by decide) (fun c_9 => ?_) (fun c_9 => absurd ((nI_le (by omega) (by omega))) c_9)
    refine w_iconst (v := 0) dX5_kindOfByte_21 (by decide) ?_
    refine w_iret dX5_kindOfByte_22 rfl rfl ⟨rt_i (by unfold kb; rw [if_neg hil]; rfl), rfl⟩ (by decide) (by decide)
set_option maxRecDepth 100000 in
theorem c_nextToken (hR : R 23 0 = some 24) (hN : 24 < N) (hr : rdC I tx L) {a : Nat} (ha : a ≤ L) (h4 : I 23 4 = nI a) : g_Ct E l mX5_nextToken 1 22 0 0 [.ref 23] (I, J, R, D, N, ex) (g_rv (fun I' => frK I I' ∧ tkC I' tx L a) J R D N ex) := by
  refine g_Ct.of (by decide +kernel) (lb rfl) ?_
  have hL := hr.2.1
  have hb := tk_b (tx := tx) ha
  generalize hS : tkS tx L a = S at hb
  generalize hE : tkE tx L a = Z at hb
  have hK : tkK tx L a = kb tx L S := by unfold tkK; rw [hS]
  have hk4 := kb_le tx L S
  have fin : ∀ I' : Nat → Nat → Int32, frK I I' → I' 23 3 = nI S → I' 23 5 = nI (kb tx L S) → g_Wp E l mX5_nextToken { frames := 1, cells := 0, slots := 0, locals := 22 } (g_Fin E (g_rv (fun I' => frK I I' ∧ tkC I' tx L a) J R D N ex) 0 0) 0 0 95 [(1, .int (nI Z)), (0, .ref 23)] [] (I', J, R, D, N, ex) := by
    intro I' f1 f2 f3
    refine w_aload_n dX5_nextToken_95 rfl ?_
    refine w_iload_n dX5_nextToken_96 rfl ?_
    refine x_puti (ci := 5) (k := 4) dX5_nextToken_97 rfl (by decide) (by decide) (by omega) fl_X5_35 rfl rfl ?_
    refine w_vret dX5_nextToken_100 rfl ⟨_, rfl, ⟨⟨fun o p => by rw [← f1.1 o p]; funext j; simp [up2, p], fun k p q r => by rw [← f1.2 k p q r]; simp [up2, q]⟩, by rw [up2_n _ _ (by simp), hS]; exact f2, by rw [up2_s, hE], by rw [up2_n _ _ (by simp), hK]; exact f3⟩, rfl⟩ (by decide) (by decide)
  have loop2 : ∀ (f i : Nat) (I' : Nat → Nat → Int32), i + f = L → runE tx L (kb tx L S) f i = Z → frK I I' → I' 23 3 = nI S → I' 23 5 = nI (kb tx L S) → g_Wp E l mX5_nextToken { frames := 1, cells := 0, slots := 0, locals := 22 } (g_Fin E (g_rv (fun I' => frK I I' ∧ tkC I' tx L a) J R D N ex) 0 0) 0 0 69 [(1, .int (nI i)), (0, .ref 23)] [] (I', J, R, D, N, ex) := by
    intro f
    induction f with
    | zero =>
      intro i I' hi hz f1 f2 f3
      obtain rfl : i = L := by omega
      have hz' : i = Z := hz
      subst hz'
      refine w_iload_n dX5_nextToken_69 rfl ?_
      refine w_aload_n dX5_nextToken_70 rfl ?_
      refine x_geti (ci := 5) (k := 2) dX5_nextToken_71 rfl (by decide) (by decide) (by omega) fl_X5_32 rfl ?_
      rw [(hr.fr f1).1]
      refine w_icmp_ge (tgt := 95) dX5_nextToken_74 (by decide) (fun c_74 => ?_) (fun c_74 => absurd ((nI_le (by omega) (by omega))) c_74)
      exact w_lv [1, 0] (fin I' f1 f2 f3)
    | succ f ih =>
      intro i I' hi hz f1 f2 f3
      rw [runE] at hz
      have hki := kb_le tx L i
      refine w_iload_n dX5_nextToken_69 rfl ?_
      refine w_aload_n dX5_nextToken_70 rfl ?_
      refine x_geti (ci := 5) (k := 2) dX5_nextToken_71 rfl (by decide) (by decide) (by omega) fl_X5_32 rfl ?_
      rw [(hr.fr f1).1]
      refine w_icmp_ge (tgt := 95) dX5_nextToken_74 (by decide) (fun c_74 => absurd c_74 ((nI_ge (by omega) (by omega)))) (fun c_74 => ?_)
      refine w_aload_n dX5_nextToken_77 rfl ?_
      refine w_iload_n dX5_nextToken_78 rfl ?_
      refine y_callV dX5_nextToken_79 lk_X5_153 [.int (nI i)] rfl (c_kindOfByte E l hR hN (hr.fr f1) (show i ≤ L by omega)) (g_recv.obj (ci := 5) rfl (by decide) (show 23 < N by omega)) rfl ⟨⟨by decide, by decide⟩, by decide, by decide⟩ (lb rfl) ?_
      refine w_aload_n dX5_nextToken_82 rfl ?_
      refine x_geti (ci := 5) (k := 5) dX5_nextToken_83 rfl (by decide) (by decide) (by omega) fl_X5_48 rfl ?_
      rw [f3]
      refine w_icmp_ne (tgt := 95) dX5_nextToken_86 (by decide) (fun c_86 => ?_) (fun c_86 => ?_)
      · have e : i = Z := (by rw [← hz, if_neg (n_ne c_86)])
        rw [e]
        exact w_lv [1, 0] (fin I' f1 f2 f3)
      · refine w_iinc (v := nI (i + 1)) dX5_nextToken_89 rfl (nI_inc _) (by decide) rfl ?_
        refine w_goto (tgt := 69) dX5_nextToken_92 (by decide) ?_
        exact w_lv [1, 0] (ih (i + 1) I' (by omega) (by rw [← hz, if_pos (n_eq c_86)]) f1 f2 f3)
  have mid : g_Wp E l mX5_nextToken { frames := 1, cells := 0, slots := 0, locals := 22 } (g_Fin E (g_rv (fun I' => frK I I' ∧ tkC I' tx L a) J R D N ex) 0 0) 0 0 29 [(1, .int (nI S)), (0, .ref 23)] [] (I, J, R, D, N, ex) := by
    have fr1 : frK I (up2 I 23 3 (nI S)) := ⟨fun o p => by funext j; simp [up2, p], fun k p _ _ => by simp [up2, p]⟩
    have fr2 : frK I (up2 (up2 I 23 3 (nI S)) 23 5 (nI (kb tx L S))) := ⟨fun o p => by funext j; simp [up2, p], fun k p _ r => by simp [up2, p, r]⟩
    have hE0 : Z = if kb tx L S = 0 then S else if kb tx L S = 1 ∨ kb tx L S = 2 then runE tx L (kb tx L S) (L - (S + 1)) (S + 1) else S + 1 := by rw [← hE]; unfold tkE; rw [hK, hS]
    have h0 := kb_0 (tx := tx) (L := L) (i := S)
    refine w_aload_n dX5_nextToken_29 rfl ?_
    refine w_iload_n dX5_nextToken_30 rfl ?_
    refine x_puti (ci := 5) (k := 3) dX5_nextToken_31 rfl (by decide) (by decide) (by omega) fl_X5_143 rfl rfl ?_
    refine w_aload_n dX5_nextToken_34 rfl ?_
    refine w_aload_n dX5_nextToken_35 rfl ?_
    refine w_iload_n dX5_nextToken_36 rfl ?_
    refine y_callV dX5_nextToken_37 lk_X5_153 [.int (nI S)] rfl (c_kindOfByte E l hR hN (hr.fr fr1) hb.2.1) (g_recv.obj (ci := 5) rfl (by decide) (show 23 < N by omega)) rfl ⟨⟨by decide, by decide⟩, by decide, by decide⟩ (lb rfl) ?_
    refine x_puti (ci := 5) (k := 5) dX5_nextToken_40 rfl (by decide) (by decide) (by omega) fl_X5_48 rfl rfl ?_
    refine w_aload_n dX5_nextToken_43 rfl ?_
    refine x_geti (ci := 5) (k := 5) dX5_nextToken_44 rfl (by decide) (by decide) (by omega) fl_X5_48 rfl ?_
    rw [up2_s]
    refine w_if_eq (tgt := 53) dX5_nextToken_47 (by decide) (fun c_47 => ?_) (fun c_47 => ?_)
    · refine w_aload_n dX5_nextToken_53 rfl ?_
      refine x_geti (ci := 5) (k := 5) dX5_nextToken_54 rfl (by decide) (by decide) (by omega) fl_X5_48 rfl ?_
      rw [up2_s]
      refine w_iconst (v := 1) dX5_nextToken_57 (by decide) ?_
      refine w_icmp_eq (tgt := 69) dX5_nextToken_58 (by decide) (fun c_58 => ?_) (fun c_58 => ?_)
      · have n12 : kb tx L S = 1 ∨ kb tx L S = 2 := (by first | exact Or.inl (n_eq (b := 1) c_58) | exact Or.inr (n_eq (b := 2) c_66))
        by_cases n0 : kb tx L S = 0
        · exfalso; omega
        · rw [if_neg n0, if_pos n12] at hE0
          first | exact w_lv [1, 0] (loop2 (L - (S + 1)) (S + 1) _ (by omega) hE0.symm fr2 (by rw [up2_n _ _ (by simp), up2_s]) (up2_s ..)) | exact absurd (n_eq (b := 0) c_47) n0
      · refine w_aload_n dX5_nextToken_61 rfl ?_
        refine x_geti (ci := 5) (k := 5) dX5_nextToken_62 rfl (by decide) (by decide) (by omega) fl_X5_48 rfl ?_
        rw [up2_s]
        refine w_iconst (v := 2) dX5_nextToken_65 (by decide) ?_
        refine w_icmp_ne (tgt := 95) dX5_nextToken_66 (by decide) (fun c_66 => ?_) (fun c_66 => ?_)
        · have hZ : ∀ z, z = Z → g_Wp E l mX5_nextToken { frames := 1, cells := 0, slots := 0, locals := 22 } (g_Fin E (g_rv (fun I' => frK I I' ∧ tkC I' tx L a) J R D N ex) 0 0) 0 0 95 [(1, .int (nI z)), (0, .ref 23)] [] (up2 (up2 I 23 3 (nI S)) 23 5 (nI (kb tx L S)), J, R, D, N, ex) := (fun z hz => by rw [hz]; exact fin _ fr2 (by rw [up2_n _ _ (by simp), up2_s]) (up2_s ..))
          first | (rw [if_pos (n_eq (b := 0) c_47)] at hE0; exact w_lv [1, 0] (hZ _ hE0.symm)) | (rw [if_neg (fun q => c_47 (by rw [q]; rfl)), if_neg (by intro q; rcases q with q | q; exact c_58 (by rw [q]; rfl); exact c_66 (by rw [q]; rfl))] at hE0; exact w_lv [1, 0] (hZ _ hE0.symm))
        · have n12 : kb tx L S = 1 ∨ kb tx L S = 2 := (by first | exact Or.inl (n_eq (b := 1) c_58) | exact Or.inr (n_eq (b := 2) c_66))
          by_cases n0 : kb tx L S = 0
          · exfalso; omega
          · rw [if_neg n0, if_pos n12] at hE0
            first | exact w_lv [1, 0] (loop2 (L - (S + 1)) (S + 1) _ (by omega) hE0.symm fr2 (by rw [up2_n _ _ (by simp), up2_s]) (up2_s ..)) | exact absurd (n_eq (b := 0) c_47) n0
    · refine w_iinc (v := nI (S + 1)) dX5_nextToken_50 rfl (nI_inc _) (by decide) rfl ?_
      refine w_aload_n dX5_nextToken_53 rfl ?_
      refine x_geti (ci := 5) (k := 5) dX5_nextToken_54 rfl (by decide) (by decide) (by omega) fl_X5_48 rfl ?_
      rw [up2_s]
      refine w_iconst (v := 1) dX5_nextToken_57 (by decide) ?_
      refine w_icmp_eq (tgt := 69) dX5_nextToken_58 (by decide) (fun c_58 => ?_) (fun c_58 => ?_)
      · have n12 : kb tx L S = 1 ∨ kb tx L S = 2 := (by first | exact Or.inl (n_eq (b := 1) c_58) | exact Or.inr (n_eq (b := 2) c_66))
        by_cases n0 : kb tx L S = 0
        · exfalso; omega
        · rw [if_neg n0, if_pos n12] at hE0
          first | exact w_lv [1, 0] (loop2 (L - (S + 1)) (S + 1) _ (by omega) hE0.symm fr2 (by rw [up2_n _ _ (by simp), up2_s]) (up2_s ..)) | exact absurd (n_eq (b := 0) c_47) n0
      · refine w_aload_n dX5_nextToken_61 rfl ?_
        refine x_geti (ci := 5) (k := 5) dX5_nextToken_62 rfl (by decide) (by decide) (by omega) fl_X5_48 rfl ?_
        rw [up2_s]
        refine w_iconst (v := 2) dX5_nextToken_65 (by decide) ?_
        refine w_icmp_ne (tgt := 95) dX5_nextToken_66 (by decide) (fun c_66 => ?_) (fun c_66 => ?_)
        · have hZ : ∀ z, z = Z → g_Wp E l mX5_nextToken { frames := 1, cells := 0, slots := 0, locals := 22 } (g_Fin E (g_rv (fun I' => frK I I' ∧ tkC I' tx L a) J R D N ex) 0 0) 0 0 95 [(1, .int (nI z)), (0, .ref 23)] [] (up2 (up2 I 23 3 (nI S)) 23 5 (nI (kb tx L S)), J, R, D, N, ex) := (fun z hz => by rw [hz]; exact fin _ fr2 (by rw [up2_n _ _ (by simp), up2_s]) (up2_s ..))
          first | (rw [if_pos (n_eq (b := 0) c_47)] at hE0; exact w_lv [1, 0] (hZ _ hE0.symm)) | (rw [if_neg (fun q => c_47 (by rw [q]; rfl)), if_neg (by intro q; rcases q with q | q; exact c_58 (by rw [q]; rfl); exact c_66 (by rw [q]; rfl))] at hE0; exact w_lv [1, 0] (hZ _ hE0.symm))
        · have n12 : kb tx L S = 1 ∨ kb tx L S = 2 := (by first | exact Or.inl (n_eq (b := 1) c_58) | exact Or.inr (n_eq (b := 2) c_66))
          by_cases n0 : kb tx L S = 0
          · exfalso; omega
          · rw [if_neg n0, if_pos n12] at hE0
            first | exact w_lv [1, 0] (loop2 (L - (S + 1)) (S + 1) _ (by omega) hE0.symm fr2 (by rw [up2_n _ _ (by simp), up2_s]) (up2_s ..)) | exact absurd (n_eq (b := 0) c_47) n0
  have loop1 : ∀ f i : Nat, i + f = L → skp tx L f i = S → g_Wp E l mX5_nextToken { frames := 1, cells := 0, slots := 0, locals := 22 } (g_Fin E (g_rv (fun I' => frK I I' ∧ tkC I' tx L a) J R D N ex) 0 0) 0 0 5 [(1, .int (nI i)), (0, .ref 23)] [] (I, J, R, D, N, ex) := by
    intro f
    induction f with
    | zero =>
      intro i hi hs
      obtain rfl : i = L := by omega
      have hs' : i = S := hs
      refine w_iload_n dX5_nextToken_5 rfl ?_
      refine w_aload_n dX5_nextToken_6 rfl ?_
      refine x_geti (ci := 5) (k := 2) dX5_nextToken_7 rfl (by decide) (by decide) (by omega) fl_X5_32 rfl ?_
      rw [hr.1]
      refine w_icmp_ge (tgt := 29) dX5_nextToken_10 (by decide) (fun c_10 => ?_) (fun c_10 => absurd ((nI_le (by omega) (by omega))) c_10)
      have t := mid
      rw [← hs'] at t
      exact w_lv [1, 0] t
    | succ f ih =>
      intro i hi hs
      rw [skp] at hs
      have h256 := (hr.2.2 i (by omega)).1
      refine w_iload_n dX5_nextToken_5 rfl ?_
      refine w_aload_n dX5_nextToken_6 rfl ?_
      refine x_geti (ci := 5) (k := 2) dX5_nextToken_7 rfl (by decide) (by decide) (by omega) fl_X5_32 rfl ?_
      rw [hr.1]
      refine w_icmp_ge (tgt := 29) dX5_nextToken_10 (by decide) (fun c_10 => absurd c_10 ((nI_ge (by omega) (by omega)))) (fun c_10 => ?_)
      refine w_aload_n dX5_nextToken_13 rfl ?_
      refine w_iload_n dX5_nextToken_14 rfl ?_
      refine y_callV dX5_nextToken_15 lk_X5_149 [.int (nI i)] rfl (c_byteAt E l hR hN hr (show i < L by omega)) (g_recv.obj (ci := 5) rfl (by decide) (show 23 < N by omega)) rfl ⟨⟨by decide, by decide⟩, by decide, by decide⟩ (lb rfl) ?_
      refine w_bipush (v := 32) dX5_nextToken_18 (by decide) ?_
      refine w_icmp_ne (tgt := 29) dX5_nextToken_20 (by decide) (fun c_20 => ?_) (fun c_20 => ?_)
      · have e : i = S := (by rw [← hs, if_neg (fun q => c_20 ((sx_32 _ h256).mpr q))])
        rw [e]
        exact w_lv [1, 0] mid
      · refine w_iinc (v := nI (i + 1)) dX5_nextToken_23 rfl (nI_inc _) (by decide) rfl ?_
        refine w_goto (tgt := 5) dX5_nextToken_26 (by decide) ?_
        exact w_lv [1, 0] (ih (i + 1) (by omega) (by rw [← hs, if_pos ((sx_32 _ h256).mp c_20)]))
  refine w_aload_n dX5_nextToken_0 rfl ?_
  refine x_geti (ci := 5) (k := 4) dX5_nextToken_1 rfl (by decide) (by decide) (by omega) fl_X5_35 rfl ?_
  rw [h4]
  refine w_istore_n dX5_nextToken_4 (by decide) rfl ?_
  exact w_lv [1, 0] (loop1 (L - a) a (by omega) hS)
end TK
