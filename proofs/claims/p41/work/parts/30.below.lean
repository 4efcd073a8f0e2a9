/-! HeapGames$Solver: all that lies below a position -/
def fol5 (A B C D a b c d q : Nat) : Nat := if a < A then mk5 (a + 1) b c d q else if b < B then mk5 0 (b + 1) c d q else if c < C then mk5 0 0 (c + 1) d q else if d < D then mk5 0 0 0 (d + 1) q else mk5 0 0 0 0 (q + 1)
def rk5 (A B C D a b c d q : Nat) : Nat := a + (A + 1) * (b + (B + 1) * (c + (C + 1) * (d + (D + 1) * q)))
def tot5 (A B C D Q : Nat) : Nat := (A + 1) * ((B + 1) * ((C + 1) * ((D + 1) * (Q + 1))))
theorem rk_step {a A X Y : Nat} (h : a ≤ A) : a + (A + 1) * X < (A + 1) * Y ↔ X < Y := by
  constructor
  · intro q
    rcases Nat.lt_or_ge X Y with z | z
    · exact z
    · have := Nat.mul_le_mul_left (A + 1) z
      omega
  · intro q
    have : (A + 1) * (X + 1) ≤ (A + 1) * Y := Nat.mul_le_mul_left (A + 1) q
    rw [Nat.mul_succ] at this
    omega
theorem rk_lt {A B C D a b c d q Q : Nat} (ha : a ≤ A) (hb : b ≤ B) (hc : c ≤ C) (hd : d ≤ D) : rk5 A B C D a b c d q < tot5 A B C D Q ↔ q ≤ Q := by
  unfold rk5 tot5
  rw [rk_step ha, rk_step hb, rk_step hc, rk_step hd]
  omega
theorem rkc (A X : Nat) : 0 + (A + 1) * (X + 1) = (A + (A + 1) * X) + 1 := by rw [Nat.mul_succ]; omega
/-- the next of those below, its digits -/
theorem fol_ex {A B C D a b c d q : Nat} (ha : a ≤ A) (hb : b ≤ B) (hc : c ≤ C) (hd : d ≤ D) : ∃ a' b' c' d' q', a' ≤ A ∧ b' ≤ B ∧ c' ≤ C ∧ d' ≤ D ∧ fol5 A B C D a b c d q = mk5 a' b' c' d' q' ∧ rk5 A B C D a' b' c' d' q' = rk5 A B C D a b c d q + 1 ∧ q ≤ q' ∧ q' ≤ q + 1 := by
  unfold fol5 rk5
  split
  · exact ⟨a + 1, b, c, d, q, by omega, hb, hc, hd, rfl, by omega, by omega, by omega⟩
  · obtain rfl : a = A := by omega
    split
    · refine ⟨0, b + 1, c, d, q, by omega, by omega, hc, hd, rfl, ?_, by omega, by omega⟩
      rw [show b + 1 + (B + 1) * (c + (C + 1) * (d + (D + 1) * q)) = (b + (B + 1) * (c + (C + 1) * (d + (D + 1) * q))) + 1 by omega, rkc]
    · obtain rfl : b = B := by omega
      split
      · refine ⟨0, 0, c + 1, d, q, by omega, by omega, by omega, hd, rfl, ?_, by omega, by omega⟩
        rw [show c + 1 + (C + 1) * (d + (D + 1) * q) = (c + (C + 1) * (d + (D + 1) * q)) + 1 by omega, rkc, rkc]
      · obtain rfl : c = C := by omega
        split
        · refine ⟨0, 0, 0, d + 1, q, by omega, by omega, by omega, by omega, rfl, ?_, by omega, by omega⟩
          rw [show d + 1 + (D + 1) * q = (d + (D + 1) * q) + 1 by omega, rkc, rkc, rkc]
        · obtain rfl : d = D := by omega
          refine ⟨0, 0, 0, 0, q + 1, by omega, by omega, by omega, by omega, rfl, ?_, by omega, by omega⟩
          rw [rkc, rkc, rkc, rkc]
theorem fol_gap {A B C D Q a b c d q p : Nat} (hA : A < 16) (hB : B < 16) (hC : C < 16) (hD : D < 16) (ha : a ≤ A) (hb : b ≤ B) (hc : c ≤ C) (hd : d ≤ D) (h : lec p (mk5 A B C D Q)) (hlt : p < fol5 A B C D a b c d q) : p < mk5 a b c d q ∨ p = mk5 a b c d q := by
  obtain ⟨x, y, z, u, v, hx, hy, hz, hu, rfl⟩ := mk5_ex p
  rw [mk5_lec hA hB hC hD hx hy hz hu] at h
  obtain ⟨g1, g2, g3, g4, g5⟩ := h
  unfold fol5 at hlt
  split at hlt
  · unfold mk5 at *; omega
  · split at hlt
    · unfold mk5 at *; omega
    · split at hlt
      · unfold mk5 at *; omega
      · split at hlt
        · unfold mk5 at *; omega
        · unfold mk5 at *; omega
theorem fol_gt {A B C D a b c d q : Nat} (ha : a < 16) (hb : b < 16) (hc : c < 16) (hd : d < 16) : mk5 a b c d q < fol5 A B C D a b c d q := by
  unfold fol5
  split
  · unfold mk5; omega
  · split
    · unfold mk5; omega
    · split
      · unfold mk5; omega
      · split <;> unfold mk5 <;> omega
theorem lec_le {q p : Nat} (h : lec q p) : q ≤ p := by
  rw [mk5_p q, mk5_p p]
  rw [lec_iff] at h
  unfold mk5
  omega
def chb (t : Nat) : Nat → Nat
  | 0 => 1
  | h + 1 => chb t h * (dig t h + 1)
theorem chb_le (t : Nat) : ∀ h, chb t h ≤ 16 ^ h
  | 0 => Nat.le_refl _
  | h + 1 => by
    rw [chb, Nat.pow_succ]
    exact Nat.mul_le_mul (chb_le t h) (dig_lt t h)
theorem tot_chb {A B C D Q : Nat} (hA : A < 16) (hB : B < 16) (hC : C < 16) (hD : D < 16) : (Q + 1) * chb (mk5 A B C D Q) 4 = tot5 A B C D Q := by
  unfold tot5
  rw [show chb (mk5 A B C D Q) 4 = 1 * (dig (mk5 A B C D Q) 0 + 1) * (dig (mk5 A B C D Q) 1 + 1) * (dig (mk5 A B C D Q) 2 + 1) * (dig (mk5 A B C D Q) 3 + 1) from rfl, mk5_0 hA, mk5_1 hA hB, mk5_2 hA hB hC, mk5_3 hA hB hC hD, Nat.one_mul]
  rw [Nat.mul_comm (Q + 1)]
  simp only [Nat.mul_assoc]
theorem set_0 {a b c d q : Nat} (ha : a < 16) : setN (mk5 a b c d q) 0 0 = mk5 0 b c d q := by unfold setN mk5; simp; omega
theorem set_1 {b c d q : Nat} (hb : b < 16) : setN (mk5 0 b c d q) 1 0 = mk5 0 0 c d q := by unfold setN mk5; simp; omega
theorem set_2 {c d q : Nat} (hc : c < 16) : setN (mk5 0 0 c d q) 2 0 = mk5 0 0 0 d q := by unfold setN mk5; simp; omega
theorem set_3 {d q : Nat} (hd : d < 16) : setN (mk5 0 0 0 d q) 3 0 = mk5 0 0 0 0 q := by unfold setN mk5; simp; omega
section SB
variable (E : GE) (l : Launch)
variable {I : Nat → Nat → Int32} {J : Nat → Nat → Int64} {R : Nat → Nat → Option Nat} {D : Nat → Nat → UInt64} {N : Nat} {ex : Bool}
set_option maxRecDepth 100000 in
theorem c_countHeapsBelow (w : GW) {t : Nat} (ht : t < 2 ^ 31) : g_Ct E l mX3_countHeapsBelow 1 21 0 0 [.int (nI t)] w (g_is (some (.int (nI (chb t 4)))) w) := by
  refine g_Ct.of (by decide +kernel) (lb rfl) ?_
  have loop : ∀ f h : Nat, h + f = 4 → g_Wp E l mX3_countHeapsBelow { frames := 1, cells := 0, slots := 0, locals := 21 } (g_Fin E (g_is (some (.int (nI (chb t 4)))) w) 0 0) 0 0 4 [(2, .int (nI h)), (1, .int (nI (chb t h))), (0, .int (nI t))] [] w := by
    intro f
    induction f with
    | zero =>
      intro h hh
      obtain rfl : h = 4 := by omega
      refine w_iload_n dX3_countHeapsBelow_4 rfl ?_
      refine w_iconst (v := 4) dX3_countHeapsBelow_5 (by decide) ?_
      refine w_icmp_ge (tgt := 25) dX3_countHeapsBelow_6 (by decide) (fun c_6 => ?_) (fun c_6 => absurd ((by decide)) c_6)
      refine w_iload_n dX3_countHeapsBelow_25 rfl ?_
      refine w_iret dX3_countHeapsBelow_26 rfl rfl ⟨rfl, rfl⟩ (by decide) (by decide)
    | succ f ih =>
      intro h hh
      refine w_iload_n dX3_countHeapsBelow_4 rfl ?_
      refine w_iconst (v := 4) dX3_countHeapsBelow_5 (by decide) ?_
      refine w_icmp_ge (tgt := 25) dX3_countHeapsBelow_6 (by decide) (fun c_6 => absurd c_6 ((nI_ge (a := h) (b := 4) (by omega) (by omega)))) (fun c_6 => ?_)
      refine w_iload_n dX3_countHeapsBelow_9 rfl ?_
      refine w_iload_n dX3_countHeapsBelow_10 rfl ?_
      refine w_iload_n dX3_countHeapsBelow_11 rfl ?_
      refine y_callSN dX3_countHeapsBelow_12 lk_X3_84 [.int (nI t), .int (nI h)] rfl (c_bitsOf E l _ _ _) rfl ⟨⟨by decide, by decide⟩, by decide, by decide⟩ (lb rfl) ?_
      rw [bits_nI (by omega) (by omega)]
      refine w_st (show _ = [.int (nI (dig t h)), .int (nI (chb t h))] from rfl) ?_
      refine w_iconst (v := 1) dX3_countHeapsBelow_15 (by decide) ?_
      refine w_iadd dX3_countHeapsBelow_16 ?_
      rw [nI_1]
      refine w_imul dX3_countHeapsBelow_17 ?_
      rw [pk_mul]
      refine w_istore_n dX3_countHeapsBelow_18 (by decide) rfl ?_
      refine w_iinc (v := nI (h + 1)) dX3_countHeapsBelow_19 rfl (nI_inc _) (by decide) rfl ?_
      refine w_goto (tgt := 4) dX3_countHeapsBelow_22 (by decide) ?_
      exact w_lv [2, 1, 0] (ih (h + 1) (by omega))
  refine w_iconst (v := 1) dX3_countHeapsBelow_0 (by decide) ?_
  refine w_istore_n dX3_countHeapsBelow_1 (by decide) rfl ?_
  refine w_iconst (v := 0) dX3_countHeapsBelow_2 (by decide) ?_
  refine w_istore_n dX3_countHeapsBelow_3 (by decide) rfl ?_
  exact w_lv [2, 1, 0] (loop 4 0 (by omega))
set_option maxRecDepth 100000 in
theorem c_followingBelow (w : GW) {A B C D Q a b c d q : Nat} (hA : A < 16) (hB : B < 16) (hC : C < 16) (hD : D < 16) (ha : a < 16) (hb : b < 16) (hc : c < 16) (hd : d < 16) (hq : q < 5) (hQ : Q < 5) :
    g_Ct E l mX3_followingBelow 1 22 0 0 [.int (nI (mk5 a b c d q)), .int (nI (mk5 A B C D Q))] w (g_is (some (.int (nI (fol5 A B C D a b c d q)))) w) := by
  refine g_Ct.of (by decide +kernel) (lb rfl) ?_
  have hT : mk5 A B C D Q < 2 ^ 31 := by unfold mk5; omega
  have hp0 : mk5 a b c d q < 2 ^ 31 := by unfold mk5; omega
  have hp1 : mk5 0 b c d q < 2 ^ 31 := by unfold mk5; omega
  have hp2 : mk5 0 0 c d q < 2 ^ 31 := by unfold mk5; omega
  have hp3 : mk5 0 0 0 d q < 2 ^ 31 := by unfold mk5; omega
  generalize hF : fol5 A B C D a b c d q = F
  unfold fol5 at hF
  have s4 : ¬ a < A → ¬ b < B → ¬ c < C → ¬ d < D → g_Wp E l mX3_followingBelow { frames := 1, cells := 0, slots := 0, locals := 22 } (g_Fin E (g_is (some (.int (nI F))) w) 0 0) 0 0 4 [(3, .int 4), (2, .int (nI (mk5 0 0 0 0 q))), (0, .int (nI (mk5 a b c d q))), (1, .int (nI (mk5 A B C D Q)))] [] w := by
    intro h1 h2 h3 h4
    rw [if_neg h1, if_neg h2, if_neg h3, if_neg h4] at hF
    refine w_iload_n dX3_followingBelow_4 rfl ?_
    refine w_iconst (v := 4) dX3_followingBelow_5 (by decide) ?_
    refine w_icmp_ge (tgt := 43) dX3_followingBelow_6 (by decide) (fun c_6 => ?_) (fun c_6 => absurd ((by decide)) c_6)
    refine w_iload_n dX3_followingBelow_43 rfl ?_
    refine w_ldc dX3_followingBelow_44 kc_X3_79 ?_
    refine w_iadd dX3_followingBelow_46 ?_
    rw [show (65536 : Int32) = nI 65536 from rfl, nI_add]
    refine w_iret dX3_followingBelow_47 rfl rfl ⟨rt_i (by rw [← hF, show mk5 0 0 0 0 q + 65536 = mk5 0 0 0 0 (q + 1) by unfold mk5; omega]), rfl⟩ (by decide) (by decide)
  have s3 : ¬ a < A → ¬ b < B → ¬ c < C → g_Wp E l mX3_followingBelow { frames := 1, cells := 0, slots := 0, locals := 22 } (g_Fin E (g_is (some (.int (nI F))) w) 0 0) 0 0 4 [(3, .int 3), (2, .int (nI (mk5 0 0 0 d q))), (0, .int (nI (mk5 a b c d q))), (1, .int (nI (mk5 A B C D Q)))] [] w := by
    intro h1 h2 h3
    rw [if_neg h1, if_neg h2, if_neg h3] at hF
    refine w_iload_n dX3_followingBelow_4 rfl ?_
    refine w_iconst (v := 4) dX3_followingBelow_5 (by decide) ?_
    refine w_icmp_ge (tgt := 43) dX3_followingBelow_6 (by decide) (fun c_6 => absurd c_6 ((by decide))) (fun c_6 => ?_)
    refine w_iload_n dX3_followingBelow_9 rfl ?_
    refine w_iload_n dX3_followingBelow_10 rfl ?_
    refine y_callSN dX3_followingBelow_11 lk_X3_84 [.int (nI (mk5 0 0 0 d q)), .int 3] rfl (c_bitsOf E l _ _ _) rfl ⟨⟨by decide, by decide⟩, by decide, by decide⟩ (lb rfl) ?_
    rw [show s_bits (nI (mk5 0 0 0 d q)) 3 = nI d from (bits_nI (x := mk5 0 0 0 d q) (h := 3) hp3 (by omega)).trans (congrArg nI (mk5_3 (by omega) (by omega) (by omega) hd))]
    refine w_iload_n dX3_followingBelow_14 rfl ?_
    refine w_iload_n dX3_followingBelow_15 rfl ?_
    refine y_callSN dX3_followingBelow_16 lk_X3_84 [.int (nI (mk5 A B C D Q)), .int 3] rfl (c_bitsOf E l _ _ _) rfl ⟨⟨by decide, by decide⟩, by decide, by decide⟩ (lb rfl) ?_
    rw [show s_bits (nI (mk5 A B C D Q)) 3 = nI D from (bits_nI (x := mk5 A B C D Q) (h := 3) hT (by omega)).trans (congrArg nI (mk5_3 hA hB hC hD))]
    refine w_icmp_ge (tgt := 30) dX3_followingBelow_19 (by decide) (fun c_19 => ?_) (fun c_19 => ?_)
    · refine w_iload_n dX3_followingBelow_30 rfl ?_
      refine w_iload_n dX3_followingBelow_31 rfl ?_
      refine w_iconst (v := 0) dX3_followingBelow_32 (by decide) ?_
      refine y_callSN dX3_followingBelow_33 lk_X3_112 [.int (nI (mk5 0 0 0 d q)), .int 3, .int 0] rfl (c_withBits E l _ _ _ _) rfl ⟨⟨by decide, by decide⟩, by decide, by decide⟩ (lb rfl) ?_
      rw [show s_with (nI (mk5 0 0 0 d q)) 3 0 = nI (mk5 0 0 0 0 q) from (with_nI (x := mk5 0 0 0 d q) (h := 3) (b := 0) (by omega) (by omega)).trans (congrArg nI (set_3 hd))]
      refine w_istore_n dX3_followingBelow_36 (by decide) rfl ?_
      refine w_iinc (v := 4) dX3_followingBelow_37 rfl rfl (by decide) rfl ?_
      refine w_goto (tgt := 4) dX3_followingBelow_40 (by decide) ?_
      exact w_lv [3, 2, 0, 1] (s4 h1 h2 h3 (Nat.not_lt.mpr (n_le c_19)))
    · refine w_iload_n dX3_followingBelow_22 rfl ?_
      refine w_iconst (v := 1) dX3_followingBelow_23 (by decide) ?_
      refine w_iconst (v := 4) dX3_followingBelow_24 (by decide) ?_
      refine w_iload_n dX3_followingBelow_25 rfl ?_
      refine w_imul dX3_followingBelow_26 ?_
      refine w_ishl dX3_followingBelow_27 ?_
      refine w_iadd dX3_followingBelow_28 ?_
      rw [show nI (mk5 0 0 0 d q) + (1 : Int32) <<< ((4 : Int32) * 3 &&& 31) = nI (mk5 0 0 0 d q) + nI 4096 from rfl, nI_add, show mk5 0 0 0 d q + 4096 = mk5 0 0 0 (d + 1) q by unfold mk5; omega]
      refine w_iret dX3_followingBelow_29 rfl rfl ⟨rt_i (by rw [← hF, if_pos (n_nle c_19)]), rfl⟩ (by decide) (by decide)
  have s2 : ¬ a < A → ¬ b < B → g_Wp E l mX3_followingBelow { frames := 1, cells := 0, slots := 0, locals := 22 } (g_Fin E (g_is (some (.int (nI F))) w) 0 0) 0 0 4 [(3, .int 2), (2, .int (nI (mk5 0 0 c d q))), (0, .int (nI (mk5 a b c d q))), (1, .int (nI (mk5 A B C D Q)))] [] w := by
    intro h1 h2
    rw [if_neg h1, if_neg h2] at hF
    refine w_iload_n dX3_followingBelow_4 rfl ?_
    refine w_iconst (v := 4) dX3_followingBelow_5 (by decide) ?_
    refine w_icmp_ge (tgt := 43) dX3_followingBelow_6 (by decide) (fun c_6 => absurd c_6 ((by decide))) (fun c_6 => ?_)
    refine w_iload_n dX3_followingBelow_9 rfl ?_
    refine w_iload_n dX3_followingBelow_10 rfl ?_
    refine y_callSN dX3_followingBelow_11 lk_X3_84 [.int (nI (mk5 0 0 c d q)), .int 2] rfl (c_bitsOf E l _ _ _) rfl ⟨⟨by decide, by decide⟩, by decide, by decide⟩ (lb rfl) ?_
    rw [show s_bits (nI (mk5 0 0 c d q)) 2 = nI c from (bits_nI (x := mk5 0 0 c d q) (h := 2) hp2 (by omega)).trans (congrArg nI (mk5_2 (by omega) (by omega) hc))]
    refine w_iload_n dX3_followingBelow_14 rfl ?_
    refine w_iload_n dX3_followingBelow_15 rfl ?_
    refine y_callSN dX3_followingBelow_16 lk_X3_84 [.int (nI (mk5 A B C D Q)), .int 2] rfl (c_bitsOf E l _ _ _) rfl ⟨⟨by decide, by decide⟩, by decide, by decide⟩ (lb rfl) ?_
    rw [show s_bits (nI (mk5 A B C D Q)) 2 = nI C from (bits_nI (x := mk5 A B C D Q) (h := 2) hT (by omega)).trans (congrArg nI (mk5_2 hA hB hC))]
    refine w_icmp_ge (tgt := 30) dX3_followingBelow_19 (by decide) (fun c_19 => ?_) (fun c_19 => ?_)
    · refine w_iload_n dX3_followingBelow_30 rfl ?_
      refine w_iload_n dX3_followingBelow_31 rfl ?_
      refine w_iconst (v := 0) dX3_followingBelow_32 (by decide) ?_
      refine y_callSN dX3_followingBelow_33 lk_X3_112 [.int (nI (mk5 0 0 c d q)), .int 2, .int 0] rfl (c_withBits E l _ _ _ _) rfl ⟨⟨by decide, by decide⟩, by decide, by decide⟩ (lb rfl) ?_
      rw [show s_with (nI (mk5 0 0 c d q)) 2 0 = nI (mk5 0 0 0 d q) from (with_nI (x := mk5 0 0 c d q) (h := 2) (b := 0) (by omega) (by omega)).trans (congrArg nI (set_2 hc))]
      refine w_istore_n dX3_followingBelow_36 (by decide) rfl ?_
      refine w_iinc (v := 3) dX3_followingBelow_37 rfl rfl (by decide) rfl ?_
      refine w_goto (tgt := 4) dX3_followingBelow_40 (by decide) ?_
      exact w_lv [3, 2, 0, 1] (s3 h1 h2 (Nat.not_lt.mpr (n_le c_19)))
    · refine w_iload_n dX3_followingBelow_22 rfl ?_
      refine w_iconst (v := 1) dX3_followingBelow_23 (by decide) ?_
      refine w_iconst (v := 4) dX3_followingBelow_24 (by decide) ?_
      refine w_iload_n dX3_followingBelow_25 rfl ?_
      refine w_imul dX3_followingBelow_26 ?_
      refine w_ishl dX3_followingBelow_27 ?_
      refine w_iadd dX3_followingBelow_28 ?_
      rw [show nI (mk5 0 0 c d q) + (1 : Int32) <<< ((4 : Int32) * 2 &&& 31) = nI (mk5 0 0 c d q) + nI 256 from rfl, nI_add, show mk5 0 0 c d q + 256 = mk5 0 0 (c + 1) d q by unfold mk5; omega]
      refine w_iret dX3_followingBelow_29 rfl rfl ⟨rt_i (by rw [← hF, if_pos (n_nle c_19)]), rfl⟩ (by decide) (by decide)
  have s1 : ¬ a < A → g_Wp E l mX3_followingBelow { frames := 1, cells := 0, slots := 0, locals := 22 } (g_Fin E (g_is (some (.int (nI F))) w) 0 0) 0 0 4 [(3, .int 1), (2, .int (nI (mk5 0 b c d q))), (0, .int (nI (mk5 a b c d q))), (1, .int (nI (mk5 A B C D Q)))] [] w := by
    intro h1
    rw [if_neg h1] at hF
    refine w_iload_n dX3_followingBelow_4 rfl ?_
    refine w_iconst (v := 4) dX3_followingBelow_5 (by decide) ?_
    refine w_icmp_ge (tgt := 43) dX3_followingBelow_6 (by decide) (fun c_6 => absurd c_6 ((by decide))) (fun c_6 => ?_)
    refine w_iload_n dX3_followingBelow_9 rfl ?_
    refine w_iload_n dX3_followingBelow_10 rfl ?_
    refine y_callSN dX3_followingBelow_11 lk_X3_84 [.int (nI (mk5 0 b c d q)), .int 1] rfl (c_bitsOf E l _ _ _) rfl ⟨⟨by decide, by decide⟩, by decide, by decide⟩ (lb rfl) ?_
    rw [show s_bits (nI (mk5 0 b c d q)) 1 = nI b from (bits_nI (x := mk5 0 b c d q) (h := 1) hp1 (by omega)).trans (congrArg nI (mk5_1 (by omega) hb))]
    refine w_iload_n dX3_followingBelow_14 rfl ?_
    refine w_iload_n dX3_followingBelow_15 rfl ?_
    refine y_callSN dX3_followingBelow_16 lk_X3_84 [.int (nI (mk5 A B C D Q)), .int 1] rfl (c_bitsOf E l _ _ _) rfl ⟨⟨by decide, by decide⟩, by decide, by decide⟩ (lb rfl) ?_
    rw [show s_bits (nI (mk5 A B C D Q)) 1 = nI B from (bits_nI (x := mk5 A B C D Q) (h := 1) hT (by omega)).trans (congrArg nI (mk5_1 hA hB))]
    refine w_icmp_ge (tgt := 30) dX3_followingBelow_19 (by decide) (fun c_19 => ?_) (fun c_19 => ?_)
    · refine w_iload_n dX3_followingBelow_30 rfl ?_
      refine w_iload_n dX3_followingBelow_31 rfl ?_
      refine w_iconst (v := 0) dX3_followingBelow_32 (by decide) ?_
      refine y_callSN dX3_followingBelow_33 lk_X3_112 [.int (nI (mk5 0 b c d q)), .int 1, .int 0] rfl (c_withBits E l _ _ _ _) rfl ⟨⟨by decide, by decide⟩, by decide, by decide⟩ (lb rfl) ?_
      rw [show s_with (nI (mk5 0 b c d q)) 1 0 = nI (mk5 0 0 c d q) from (with_nI (x := mk5 0 b c d q) (h := 1) (b := 0) (by omega) (by omega)).trans (congrArg nI (set_1 hb))]
      refine w_istore_n dX3_followingBelow_36 (by decide) rfl ?_
      refine w_iinc (v := 2) dX3_followingBelow_37 rfl rfl (by decide) rfl ?_
      refine w_goto (tgt := 4) dX3_followingBelow_40 (by decide) ?_
      exact w_lv [3, 2, 0, 1] (s2 h1 (Nat.not_lt.mpr (n_le c_19)))
    · refine w_iload_n dX3_followingBelow_22 rfl ?_
      refine w_iconst (v := 1) dX3_followingBelow_23 (by decide) ?_
      refine w_iconst (v := 4) dX3_followingBelow_24 (by decide) ?_
      refine w_iload_n dX3_followingBelow_25 rfl ?_
      refine w_imul dX3_followingBelow_26 ?_
      refine w_ishl dX3_followingBelow_27 ?_
      refine w_iadd dX3_followingBelow_28 ?_
      rw [show nI (mk5 0 b c d q) + (1 : Int32) <<< ((4 : Int32) * 1 &&& 31) = nI (mk5 0 b c d q) + nI 16 from rfl, nI_add, show mk5 0 b c d q + 16 = mk5 0 (b + 1) c d q by unfold mk5; omega]
      refine w_iret dX3_followingBelow_29 rfl rfl ⟨rt_i (by rw [← hF, if_pos (n_nle c_19)]), rfl⟩ (by decide) (by decide)
  have s0 : g_Wp E l mX3_followingBelow { frames := 1, cells := 0, slots := 0, locals := 22 } (g_Fin E (g_is (some (.int (nI F))) w) 0 0) 0 0 4 [(3, .int 0), (2, .int (nI (mk5 a b c d q))), (0, .int (nI (mk5 a b c d q))), (1, .int (nI (mk5 A B C D Q)))] [] w := by
    refine w_iload_n dX3_followingBelow_4 rfl ?_
    refine w_iconst (v := 4) dX3_followingBelow_5 (by decide) ?_
    refine w_icmp_ge (tgt := 43) dX3_followingBelow_6 (by decide) (fun c_6 => absurd c_6 ((by decide))) (fun c_6 => ?_)
    refine w_iload_n dX3_followingBelow_9 rfl ?_
    refine w_iload_n dX3_followingBelow_10 rfl ?_
    refine y_callSN dX3_followingBelow_11 lk_X3_84 [.int (nI (mk5 a b c d q)), .int 0] rfl (c_bitsOf E l _ _ _) rfl ⟨⟨by decide, by decide⟩, by decide, by decide⟩ (lb rfl) ?_
    rw [show s_bits (nI (mk5 a b c d q)) 0 = nI a from (bits_nI (x := mk5 a b c d q) (h := 0) hp0 (by omega)).trans (congrArg nI (mk5_0 ha))]
    refine w_iload_n dX3_followingBelow_14 rfl ?_
    refine w_iload_n dX3_followingBelow_15 rfl ?_
    refine y_callSN dX3_followingBelow_16 lk_X3_84 [.int (nI (mk5 A B C D Q)), .int 0] rfl (c_bitsOf E l _ _ _) rfl ⟨⟨by decide, by decide⟩, by decide, by decide⟩ (lb rfl) ?_
    rw [show s_bits (nI (mk5 A B C D Q)) 0 = nI A from (bits_nI (x := mk5 A B C D Q) (h := 0) hT (by omega)).trans (congrArg nI (mk5_0 hA))]
    refine w_icmp_ge (tgt := 30) dX3_followingBelow_19 (by decide) (fun c_19 => ?_) (fun c_19 => ?_)
    · refine w_iload_n dX3_followingBelow_30 rfl ?_
      refine w_iload_n dX3_followingBelow_31 rfl ?_
      refine w_iconst (v := 0) dX3_followingBelow_32 (by decide) ?_
      refine y_callSN dX3_followingBelow_33 lk_X3_112 [.int (nI (mk5 a b c d q)), .int 0, .int 0] rfl (c_withBits E l _ _ _ _) rfl ⟨⟨by decide, by decide⟩, by decide, by decide⟩ (lb rfl) ?_
      rw [show s_with (nI (mk5 a b c d q)) 0 0 = nI (mk5 0 b c d q) from (with_nI (x := mk5 a b c d q) (h := 0) (b := 0) (by omega) (by omega)).trans (congrArg nI (set_0 ha))]
      refine w_istore_n dX3_followingBelow_36 (by decide) rfl ?_
      refine w_iinc (v := 1) dX3_followingBelow_37 rfl rfl (by decide) rfl ?_
      refine w_goto (tgt := 4) dX3_followingBelow_40 (by decide) ?_
      exact w_lv [3, 2, 0, 1] (s1 (Nat.not_lt.mpr (n_le c_19)))
    · refine w_iload_n dX3_followingBelow_22 rfl ?_
      refine w_iconst (v := 1) dX3_followingBelow_23 (by decide) ?_
      refine w_iconst (v := 4) dX3_followingBelow_24 (by decide) ?_
      refine w_iload_n dX3_followingBelow_25 rfl ?_
      refine w_imul dX3_followingBelow_26 ?_
      refine w_ishl dX3_followingBelow_27 ?_
      refine w_iadd dX3_followingBelow_28 ?_
      rw [show nI (mk5 a b c d q) + (1 : Int32) <<< ((4 : Int32) * 0 &&& 31) = nI (mk5 a b c d q) + nI 1 from rfl, nI_add, show mk5 a b c d q + 1 = mk5 (a + 1) b c d q by unfold mk5; omega]
      refine w_iret dX3_followingBelow_29 rfl rfl ⟨rt_i (by rw [← hF, if_pos (n_nle c_19)]), rfl⟩ (by decide) (by decide)
  refine w_iload_n dX3_followingBelow_0 rfl ?_
  refine w_istore_n dX3_followingBelow_1 (by decide) rfl ?_
  refine w_iconst (v := 0) dX3_followingBelow_2 (by decide) ?_
  refine w_istore_n dX3_followingBelow_3 (by decide) rfl ?_
  exact w_lv [3, 2, 0, 1] s0
end SB
