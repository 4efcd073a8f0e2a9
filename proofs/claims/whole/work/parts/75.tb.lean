/-! HeapGamesModel: the table of positions -/
theorem nI_msk {x k : Nat} (hk : k < 31) : nI x &&& nI (2 ^ k - 1) = nI (x % 2 ^ k) := by
  apply Int32.toBitVec_inj.mp
  apply BitVec.eq_of_toNat_eq
  show ((nI x).toBitVec &&& (nI (2 ^ k - 1)).toBitVec).toNat = (BitVec.ofNat 32 (x % 2 ^ k)).toNat
  rw [BitVec.toNat_and]
  show (BitVec.ofNat 32 x).toNat &&& (BitVec.ofNat 32 (2 ^ k - 1)).toNat = _
  have h1 : 2 ^ k < 2 ^ 32 := Nat.pow_lt_pow_right (by decide) (by omega)
  have h2 : 2 ^ k > 0 := Nat.two_pow_pos k
  rw [BitVec.toNat_ofNat, BitVec.toNat_ofNat, BitVec.toNat_ofNat, Nat.mod_eq_of_lt (show 2 ^ k - 1 < 2 ^ 32 by omega), Nat.and_two_pow_sub_one_eq_mod, Nat.mod_mod_of_dvd x (Nat.pow_dvd_pow 2 (by omega))]
  have := Nat.mod_lt x h2
  rw [Nat.mod_eq_of_lt (show x % 2 ^ k < 2 ^ 32 by omega)]
def rsL (r : Rs) : Prop := r.2.1 < 64 ∧ r.2.2 < 64
theorem encM_lt {r : Rs} (h : rsL r) : encM r < 32768 := by obtain ⟨h1, h2⟩ := h; unfold encM; split <;> omega
theorem encM_v {r : Rs} (h : rsL r) : encM r % 128 = r.2.2 := by obtain ⟨h1, h2⟩ := h; unfold encM; split <;> omega
theorem encM_w {r : Rs} (h : rsL r) : encM r / 128 % 2 = if r.1 then 1 else 0 := by obtain ⟨h1, h2⟩ := h; unfold encM; split <;> omega
theorem encM_l {r : Rs} (h : rsL r) : encM r / 256 = r.2.1 := by obtain ⟨h1, h2⟩ := h; unfold encM; split <;> omega
theorem val_rs {c : Cf} (hm : c.m ≤ 4) {p : Nat} (hp : p < 262144) : rsL (val c p) := by
  have h1 := val_le hm p
  have h2 := wt_le hp
  exact ⟨by omega, by omega⟩
section MH
variable (E : GE) (l : Launch)
variable {I : Nat → Nat → Int32} {J : Nat → Nat → Int64} {R : Nat → Nat → Option Nat} {D : Nat → Nat → UInt64} {N : Nat} {ex : Bool}
set_option maxRecDepth 100000 in
theorem m_positions (hR : lkM R N) {m : Nat} (hm : I 80 0 = nI m) (h4 : m ≤ 4) : g_Ct E l mX7_positions 0 0 0 0 [.ref 79] (I, J, R, D, N, ex) (g_is (some (.int (nI (16 ^ m)))) (I, J, R, D, N, ex)) := by
  refine g_Ct.of (by decide +kernel) (lb rfl) ?_
  have hN := hR.1
  refine w_iconst (v := 1) dX7_positions_0 (by decide) ?_
  refine w_iconst (v := 4) dX7_positions_1 (by decide) ?_
  refine w_aload_n dX7_positions_2 rfl ?_
  refine x_getr (ci := 7) (k := 0) (a := 80) dX7_positions_3 rfl (by decide) (by decide) (by omega) fl_X7_7 (Or.inr ⟨_, rfl⟩) hR.2.1 ?_
  refine w_iconst (v := 0) dX7_positions_6 (by decide) ?_
  refine x_iald (j := 0) dX7_positions_7 rfl (by omega) rfl (show 0 < 172 by decide) ?_
  rw [hm]
  refine w_imul dX7_positions_8 ?_
  refine w_ishl dX7_positions_9 ?_
  refine w_iret dX7_positions_10 rfl rfl ⟨rt_i (by rw [show (4 : Int32) * nI m = nI (4 * m) from sh4, show (1 : Int32) = nI 1 from rfl, nx_shl (by omega), Nat.one_mul, p16]), rfl⟩ (by decide) (by decide)
set_option maxRecDepth 100000 in
theorem m_valueAt (hR : lkM R N) {t : Nat} (ht : t < 262144) {r : Rs} (h : I 98 t = nI (encM r)) (hr : rsL r) : g_Ct E l mX7_valueAt 0 0 0 0 [.ref 79, .int (nI t)] (I, J, R, D, N, ex) (g_is (some (.int (nI r.2.2))) (I, J, R, D, N, ex)) := by
  refine g_Ct.of (by decide +kernel) (lb rfl) ?_
  have hN := hR.1
  refine w_aload_n dX7_valueAt_0 rfl ?_
  refine x_getr (ci := 7) (k := 36) (a := 98) dX7_valueAt_1 rfl (by decide) (by decide) (by omega) fl_X7_67 (Or.inr ⟨_, rfl⟩) hR.2.2.2.2.2.2.2.2.2.2.2.2.2.2.2.2.2.2.2.1 ?_
  refine w_iload_n dX7_valueAt_4 rfl ?_
  refine x_iald (j := t) dX7_valueAt_5 rfl (by omega) rfl (show t < 262144 from ht) ?_
  rw [h]
  refine w_bipush (v := 127) dX7_valueAt_6 (by decide) ?_
  refine w_iand dX7_valueAt_8 ?_
  refine w_iret dX7_valueAt_9 rfl rfl ⟨rt_i (by rw [show (127 : Int32) = nI (2 ^ 7 - 1) from rfl, nI_msk (by decide)]; exact congrArg nI (encM_v hr)), rfl⟩ (by decide) (by decide)
set_option maxRecDepth 100000 in
theorem m_isWonAt (hR : lkM R N) {t : Nat} (ht : t < 262144) {r : Rs} (h : I 98 t = nI (encM r)) (hr : rsL r) : g_Ct E l mX7_isWonAt 0 0 0 0 [.ref 79, .int (nI t)] (I, J, R, D, N, ex) (g_is (some (.int (b2i r.1))) (I, J, R, D, N, ex)) := by
  refine g_Ct.of (by decide +kernel) (lb rfl) ?_
  have hN := hR.1
  have hlt := encM_lt hr
  refine w_aload_n dX7_isWonAt_0 rfl ?_
  refine x_getr (ci := 7) (k := 36) (a := 98) dX7_isWonAt_1 rfl (by decide) (by decide) (by omega) fl_X7_67 (Or.inr ⟨_, rfl⟩) hR.2.2.2.2.2.2.2.2.2.2.2.2.2.2.2.2.2.2.2.1 ?_
  refine w_iload_n dX7_isWonAt_4 rfl ?_
  refine x_iald (j := t) dX7_isWonAt_5 rfl (by omega) rfl (show t < 262144 from ht) ?_
  rw [h]
  refine w_bipush (v := 7) dX7_isWonAt_6 (by decide) ?_
  refine w_ishr dX7_isWonAt_8 ?_
  refine w_iconst (v := 1) dX7_isWonAt_9 (by decide) ?_
  refine w_iand dX7_isWonAt_10 ?_
  rw [show nI (encM r) >>> ((7 : Int32) &&& 31) &&& 1 = nI (if r.1 then 1 else 0) from (nI_bit (a := 7) (by omega) (by decide)).trans (congrArg nI (encM_w hr))]
  refine w_iconst (v := 1) dX7_isWonAt_11 (by decide) ?_
  refine w_icmp_ne (tgt := 19) dX7_isWonAt_12 (by decide) (fun c_12 => ?_) (fun c_12 => ?_)
  · refine w_iconst (v := 0) dX7_isWonAt_19 (by decide) ?_
    refine w_iret dX7_isWonAt_20 rfl rfl (by first | exact ⟨rt_f (by cases e : r.1; rfl; exact absurd (by rw [e]; rfl) c_12), rfl⟩ | exact ⟨rt_t (by cases e : r.1; (rw [e] at c_12; exact absurd c_12 (by decide)); rfl), rfl⟩) (by decide) (by decide)
  · refine w_iconst (v := 1) dX7_isWonAt_15 (by decide) ?_
    refine w_goto (tgt := 20) dX7_isWonAt_16 (by decide) ?_
    refine w_iret dX7_isWonAt_20 rfl rfl (by first | exact ⟨rt_f (by cases e : r.1; rfl; exact absurd (by rw [e]; rfl) c_12), rfl⟩ | exact ⟨rt_t (by cases e : r.1; (rw [e] at c_12; exact absurd c_12 (by decide)); rfl), rfl⟩) (by decide) (by decide)
set_option maxRecDepth 100000 in
theorem m_lengthAt (hR : lkM R N) {t : Nat} (ht : t < 262144) {r : Rs} (h : I 98 t = nI (encM r)) (hr : rsL r) : g_Ct E l mX7_lengthAt 0 0 0 0 [.ref 79, .int (nI t)] (I, J, R, D, N, ex) (g_is (some (.int (nI r.2.1))) (I, J, R, D, N, ex)) := by
  refine g_Ct.of (by decide +kernel) (lb rfl) ?_
  have hN := hR.1
  have hlt := encM_lt hr
  refine w_aload_n dX7_lengthAt_0 rfl ?_
  refine x_getr (ci := 7) (k := 36) (a := 98) dX7_lengthAt_1 rfl (by decide) (by decide) (by omega) fl_X7_67 (Or.inr ⟨_, rfl⟩) hR.2.2.2.2.2.2.2.2.2.2.2.2.2.2.2.2.2.2.2.1 ?_
  refine w_iload_n dX7_lengthAt_4 rfl ?_
  refine x_iald (j := t) dX7_lengthAt_5 rfl (by omega) rfl (show t < 262144 from ht) ?_
  rw [h]
  refine w_bipush (v := 8) dX7_lengthAt_6 (by decide) ?_
  refine w_ishr dX7_lengthAt_8 ?_
  refine w_iret dX7_lengthAt_9 rfl rfl ⟨rt_i ((nx_shr (c := 8) (by omega) (by decide)).trans (congrArg nI (encM_l hr))), rfl⟩ (by decide) (by decide)
set_option maxRecDepth 100000 in
theorem m_leastUnmet (hR : lkM R N) {r : Nat} (hr : I 79 19 = nI r) {v0 : Nat} (h1 : ∀ j, j < v0 → I 94 j = nI r) (h2 : I 94 v0 ≠ nI r) (hv : v0 < 512) : g_Ct E l mX7_leastUnmet 0 0 0 0 [.ref 79] (I, J, R, D, N, ex) (g_is (some (.int (nI v0))) (I, J, R, D, N, ex)) := by
  refine g_Ct.of (by decide +kernel) (lb rfl) ?_
  have hN := hR.1
  have loop : ∀ f v : Nat, v + f = v0 → g_Wp E l mX7_leastUnmet { frames := 0, cells := 0, slots := 0, locals := 0 } (g_Fin E (g_is (some (.int (nI v0))) (I, J, R, D, N, ex)) 0 0) 0 0 2 [(1, .int (nI v)), (0, .ref 79)] [] (I, J, R, D, N, ex) := by
    intro f
    induction f with
    | zero =>
      intro v hv0
      obtain rfl : v = v0 := by omega
      refine w_aload_n dX7_leastUnmet_2 rfl ?_
      refine x_getr (ci := 7) (k := 18) (a := 94) dX7_leastUnmet_3 rfl (by decide) (by decide) (by omega) fl_X7_54 (Or.inr ⟨_, rfl⟩) hR.2.2.2.2.2.2.2.2.2.2.2.2.2.2.2.1 ?_
      refine w_iload_n dX7_leastUnmet_6 rfl ?_
      refine x_iald (j := v) dX7_leastUnmet_7 rfl (by omega) rfl (show v < 512 from hv) ?_
      refine w_aload_n dX7_leastUnmet_8 rfl ?_
      refine x_geti (ci := 7) (k := 19) dX7_leastUnmet_9 rfl (by decide) (by decide) (by omega) fl_X7_95 rfl ?_
      rw [hr]
      refine w_icmp_ne (tgt := 21) dX7_leastUnmet_12 (by decide) (fun c_12 => ?_) (fun c_12 => absurd c_12 (h2))
      refine w_iload_n dX7_leastUnmet_21 rfl ?_
      refine w_iret dX7_leastUnmet_22 rfl rfl ⟨rfl, rfl⟩ (by decide) (by decide)
    | succ f ih =>
      intro v hv0
      refine w_aload_n dX7_leastUnmet_2 rfl ?_
      refine x_getr (ci := 7) (k := 18) (a := 94) dX7_leastUnmet_3 rfl (by decide) (by decide) (by omega) fl_X7_54 (Or.inr ⟨_, rfl⟩) hR.2.2.2.2.2.2.2.2.2.2.2.2.2.2.2.1 ?_
      refine w_iload_n dX7_leastUnmet_6 rfl ?_
      refine x_iald (j := v) dX7_leastUnmet_7 rfl (by omega) rfl (show v < 512 by omega) ?_
      refine w_aload_n dX7_leastUnmet_8 rfl ?_
      refine x_geti (ci := 7) (k := 19) dX7_leastUnmet_9 rfl (by decide) (by decide) (by omega) fl_X7_95 rfl ?_
      rw [hr, h1 v (by omega)]
      refine w_icmp_ne (tgt := 21) dX7_leastUnmet_12 (by decide) (fun c_12 => absurd (rfl) c_12) (fun c_12 => ?_)
      refine w_iinc (v := nI (v + 1)) dX7_leastUnmet_15 rfl (nI_inc _) (by decide) rfl ?_
      refine w_goto (tgt := 2) dX7_leastUnmet_18 (by decide) ?_
      exact w_lv [1, 0] (ih (v + 1) (by omega))
  refine w_iconst (v := 0) dX7_leastUnmet_0 (by decide) ?_
  refine w_istore_n dX7_leastUnmet_1 (by decide) rfl ?_
  exact w_lv [1, 0] (loop v0 0 (by omega))
end MH
/-- what is gathered of the positions that moves lead to -/
def acM (I : Nat → Nat → Int32) (r : Nat) (os : List Rs) : Prop := I 79 19 = nI r ∧ I 79 41 = nI os.length ∧ I 79 42 = (if lostMin os < 64 then nI (lostMin os) else -1) ∧ I 79 43 = (if os = [] then -1 else nI (allMax os)) ∧ (∀ v, v < 512 → (I 94 v = nI r ↔ hitO os v = true)) ∧ (∀ v, v < 512 → ∃ k, k ≤ r ∧ I 94 v = nI k) ∧ ∀ x ∈ os, rsL x
def frA (I I' : Nat → Nat → Int32) : Prop := (∀ o, o ≠ 79 → o ≠ 94 → I' o = I o) ∧ ∀ k, k ≠ 41 → k ≠ 42 → k ≠ 43 → I' 79 k = I 79 k
theorem frA.refl (I : Nat → Nat → Int32) : frA I I := ⟨fun _ _ _ => rfl, fun _ _ _ _ => rfl⟩
theorem frA.trans {I I' I'' : Nat → Nat → Int32} (h : frA I I') (h' : frA I' I'') : frA I I'' := ⟨fun o a b => (h'.1 o a b).trans (h.1 o a b), fun k a b d => (h'.2 k a b d).trans (h.2 k a b d)⟩
theorem lostMin_64 (os : List Rs) : lostMin os ≤ 64 := by
  induction os using snoc_ind with
  | h0 => exact Nat.le_refl _
  | h1 l x ih => rw [lostMin_snoc]; split <;> omega
theorem allMax_63 {os : List Rs} (h : ∀ x ∈ os, rsL x) : allMax os ≤ 63 := allMax_le (fun x hx => by have := (h x hx).1; omega)
section MI
variable (E : GE) (l : Launch)
variable {I : Nat → Nat → Int32} {J : Nat → Nat → Int64} {R : Nat → Nat → Option Nat} {D : Nat → Nat → UInt64} {N : Nat} {ex : Bool}
set_option maxRecDepth 100000 in
theorem m_leads (hR : lkM R N) {t r : Nat} (ht : t < 262144) {x : Rs} (h : I 98 t = nI (encM x)) (hx : rsL x) {os : List Rs} (ha : acM I r os) : g_Ct E l mX7_leads 1 21 0 0 [.ref 79, .int (nI t)] (I, J, R, D, N, ex) (g_rv (fun I' => acM I' r (os ++ [x]) ∧ frA I I') J R D N ex) := by
  refine g_Ct.of (by decide +kernel) (lb rfl) ?_
  have hN := hR.1
  obtain ⟨a1, a2, a3, a4, a5, a6, a7⟩ := ha
  obtain ⟨x1, x2⟩ := hx
  have hlm := lostMin_64 os
  have ham := allMax_63 a7
  have s42 : ∀ (I1 : Nat → Nat → Int32), I1 98 t = nI (encM x) → I1 79 43 = I 79 43 → (I1 79 42 = (if lostMin (os ++ [x]) < 64 then nI (lostMin (os ++ [x])) else -1)) → I1 79 19 = nI r → I1 79 41 = nI (os.length + 1) → I1 94 = (fun v => if v = x.2.2 then nI r else I 94 v) → frA I I1 → g_Wp E l mX7_leads { frames := 1, cells := 0, slots := 0, locals := 21 } (g_Fin E (g_rv (fun I' => acM I' r (os ++ [x]) ∧ frA I I') J R D N ex) 0 0) 0 0 59 [(2, .int (nI x.2.1)), (0, .ref 79), (1, .int (nI t))] [] (I1, J, R, D, N, ex) := by
    intro I1 _ b3 b4 b5 b6 b7 b8
    have fin : ∀ I2 : Nat → Nat → Int32, (∀ o, o ≠ 79 → I2 o = I1 o) → (∀ k, k ≠ 43 → I2 79 k = I1 79 k) → I2 79 43 = nI (max (allMax os) x.2.1) → acM I2 r (os ++ [x]) ∧ frA I I2 := by
      intro I2 e1 e2 e3
      refine ⟨⟨by rw [e2 19 (by decide)]; exact b5, by rw [e2 41 (by decide), b6, List.length_append]; rfl, by rw [e2 42 (by decide)]; exact b4, by rw [e3, if_neg (by simp), allMax_snoc], fun v hv => ?_, fun v hv => ?_, fun y hy => ?_⟩, fun o p q => (e1 o p).trans (b8.1 o p q), fun k p q s => (e2 k s).trans (b8.2 k p q s)⟩
      · rw [e1 94 (by decide), b7, hitO_snoc]
        show (if v = x.2.2 then nI r else I 94 v) = nI r ↔ _
        by_cases z : v = x.2.2
        · rw [if_pos z]; simp [z]
        · rw [if_neg z, a5 v hv]; simp [Ne.symm z]
      · rw [e1 94 (by decide), b7]
        show ∃ k, k ≤ r ∧ (if v = x.2.2 then nI r else I 94 v) = nI k
        by_cases z : v = x.2.2
        · rw [if_pos z]; exact ⟨r, Nat.le_refl _, rfl⟩
        · rw [if_neg z]; exact a6 v hv
      · rcases List.mem_append.mp hy with z | z
        · exact a7 y z
        · rw [List.mem_singleton] at z; subst z; exact ⟨x1, x2⟩
    by_cases he : os = []
    · rw [if_pos he] at a4
      have hm0 : max (allMax os) x.2.1 = x.2.1 := by rw [he]; exact Nat.zero_max _
      refine w_iload_n dX7_leads_59 rfl ?_
      refine w_aload_n dX7_leads_60 rfl ?_
      refine x_geti (ci := 7) (k := 43) dX7_leads_61 rfl (by decide) (by decide) (by omega) fl_X7_307 rfl ?_
      rw [b3, a4]
      refine w_icmp_le (tgt := 72) dX7_leads_64 (by decide) (fun c_64 => absurd c_64 ((show ¬ nI x.2.1 ≤ -1 from fun q => by rw [Int32.le_iff_toInt_le, nI_toInt (by omega)] at q; have e : (-1 : Int32).toInt = -1 := rfl; omega))) (fun c_64 => ?_)
      refine w_aload_n dX7_leads_67 rfl ?_
      refine w_iload_n dX7_leads_68 rfl ?_
      refine x_puti (ci := 7) (k := 43) dX7_leads_69 rfl (by decide) (by decide) (by omega) fl_X7_307 rfl rfl ?_
      refine w_vret dX7_leads_72 rfl ⟨_, rfl, fin _ (fun o p => by funext j; exact up2_n _ _ (by simp [p])) (fun k p => up2_n _ _ (by simp [p])) (by rw [up2_s, hm0]), rfl⟩ (by decide) (by decide)
    · rw [if_neg he] at a4
      refine w_iload_n dX7_leads_59 rfl ?_
      refine w_aload_n dX7_leads_60 rfl ?_
      refine x_geti (ci := 7) (k := 43) dX7_leads_61 rfl (by decide) (by decide) (by omega) fl_X7_307 rfl ?_
      rw [b3, a4]
      refine w_icmp_le (tgt := 72) dX7_leads_64 (by decide) (fun c_64 => ?_) (fun c_64 => ?_)
      · refine w_vret dX7_leads_72 rfl (by first | exact ⟨_, rfl, fin _ (fun o p => rfl) (fun k p => rfl) (by rw [b3, a4, Nat.max_eq_left (n_le c_64)]), rfl⟩ | exact ⟨_, rfl, fin _ (fun o p => by funext j; exact up2_n _ _ (by simp [p])) (fun k p => up2_n _ _ (by simp [p])) (by rw [up2_s, Nat.max_eq_right (Nat.le_of_lt (n_nle c_64))]), rfl⟩) (by decide) (by decide)
      · refine w_aload_n dX7_leads_67 rfl ?_
        refine w_iload_n dX7_leads_68 rfl ?_
        refine x_puti (ci := 7) (k := 43) dX7_leads_69 rfl (by decide) (by decide) (by omega) fl_X7_307 rfl rfl ?_
        refine w_vret dX7_leads_72 rfl (by first | exact ⟨_, rfl, fin _ (fun o p => rfl) (fun k p => rfl) (by rw [b3, a4, Nat.max_eq_left (n_le c_64)]), rfl⟩ | exact ⟨_, rfl, fin _ (fun o p => by funext j; exact up2_n _ _ (by simp [p])) (fun k p => up2_n _ _ (by simp [p])) (by rw [up2_s, Nat.max_eq_right (Nat.le_of_lt (n_nle c_64))]), rfl⟩) (by decide) (by decide)
  have b0 : I 79 41 + 1 = nI (os.length + 1) := by rw [a2, nI_1]
  generalize hI1 : up2 (up2 I 79 41 (I 79 41 + 1)) 94 x.2.2 (nI r) = I1
  have c98 : I1 98 = I 98 := by rw [← hI1]; rfl
  have c42 : I1 79 42 = I 79 42 := by rw [← hI1]; rfl
  have c43 : I1 79 43 = I 79 43 := by rw [← hI1]; rfl
  have c19 : I1 79 19 = nI r := by rw [← hI1]; exact a1
  have c41 : I1 79 41 = nI (os.length + 1) := by rw [← hI1, ← b0]; rfl
  have c94 : I1 94 = (fun v => if v = x.2.2 then nI r else I 94 v) := by
    rw [← hI1]; funext v
    show (if 94 = 94 ∧ v = x.2.2 then nI r else up2 I 79 41 (I 79 41 + 1) 94 v) = _
    simp [up2]
  have cfr : frA I I1 := by
    rw [← hI1]
    exact ⟨fun o p q => by funext j; rw [up2_n _ _ (by simp [q]), up2_n _ _ (by simp [p])], fun k p _ _ => by rw [up2_n _ _ (by simp), up2_n _ _ (by simp [p])]⟩
  have hsn := lostMin_snoc os x
  have put : lostMin (os ++ [x]) = x.2.1 → g_Wp E l mX7_leads { frames := 1, cells := 0, slots := 0, locals := 21 } (g_Fin E (g_rv (fun I' => acM I' r (os ++ [x]) ∧ frA I I') J R D N ex) 0 0) 0 0 59 [(2, .int (nI x.2.1)), (0, .ref 79), (1, .int (nI t))] [] (up2 I1 79 42 (nI x.2.1), J, R, D, N, ex) := by
    intro e
    refine s42 (up2 I1 79 42 (nI x.2.1)) ?_ ?_ ?_ ?_ ?_ ?_ (cfr.trans ⟨fun o p _ => by funext j; exact up2_n _ _ (by simp [p]), fun k _ q _ => up2_n _ _ (by simp [q])⟩)
    · rw [up2_n _ _ (by simp), c98]; exact h
    · rw [up2_n _ _ (by simp)]; exact c43
    · rw [up2_s, e, if_pos x1]
    · rw [up2_n _ _ (by simp)]; exact c19
    · rw [up2_n _ _ (by simp)]; exact c41
    · rw [← c94]; funext j; exact up2_n _ _ (by simp)
  cases hx9 : x.1 with
  | true =>
    rw [hx9, if_pos rfl] at hsn
    refine w_aload_n dX7_leads_0 rfl ?_
    refine w_dup dX7_leads_1 rfl ?_
    refine x_geti (ci := 7) (k := 41) dX7_leads_2 rfl (by decide) (by decide) (by omega) fl_X7_292 rfl ?_
    refine w_iconst (v := 1) dX7_leads_5 (by decide) ?_
    refine w_iadd dX7_leads_6 ?_
    refine x_puti (ci := 7) (k := 41) dX7_leads_7 rfl (by decide) (by decide) (by omega) fl_X7_292 rfl rfl ?_
    refine w_aload_n dX7_leads_10 rfl ?_
    refine x_getr (ci := 7) (k := 18) (a := 94) dX7_leads_11 rfl (by decide) (by decide) (by omega) fl_X7_54 (Or.inr ⟨_, rfl⟩) hR.2.2.2.2.2.2.2.2.2.2.2.2.2.2.2.1 ?_
    refine w_aload_n dX7_leads_14 rfl ?_
    refine w_iload_n dX7_leads_15 rfl ?_
    refine y_callV dX7_leads_16 lk_X7_295 [.int (nI t)] rfl (m_valueAt E l hR ht (by rw [show up2 I 79 41 (I 79 41 + 1) 98 t = I 98 t from rfl]; exact h) ⟨x1, x2⟩) (g_recv.obj (ci := 7) rfl (by decide) (show 79 < N by omega)) rfl ⟨⟨by decide, by decide⟩, by decide, by decide⟩ (lb rfl) ?_
    refine w_aload_n dX7_leads_19 rfl ?_
    refine x_geti (ci := 7) (k := 19) dX7_leads_20 rfl (by decide) (by decide) (by omega) fl_X7_95 rfl ?_
    rw [show up2 I 79 41 (I 79 41 + 1) 79 19 = nI r from a1]
    refine x_iast (j := x.2.2) dX7_leads_23 rfl (by omega) rfl (show x.2.2 < 512 by omega) ?_
    rw [hI1]
    refine w_aload_n dX7_leads_24 rfl ?_
    refine w_iload_n dX7_leads_25 rfl ?_
    refine y_callV dX7_leads_26 lk_X7_298 [.int (nI t)] rfl (m_lengthAt E l hR ht (by rw [c98]; exact h) ⟨x1, x2⟩) (g_recv.obj (ci := 7) rfl (by decide) (show 79 < N by omega)) rfl ⟨⟨by decide, by decide⟩, by decide, by decide⟩ (lb rfl) ?_
    refine w_istore_n dX7_leads_29 (by decide) rfl ?_
    refine w_aload_n dX7_leads_30 rfl ?_
    refine w_iload_n dX7_leads_31 rfl ?_
    refine y_callV dX7_leads_32 lk_X7_301 [.int (nI t)] rfl (m_isWonAt E l hR ht (by rw [c98]; exact h) ⟨x1, x2⟩) (g_recv.obj (ci := 7) rfl (by decide) (show 79 < N by omega)) rfl ⟨⟨by decide, by decide⟩, by decide, by decide⟩ (lb rfl) ?_
    rw [hx9]
    refine w_if_ne (tgt := 59) dX7_leads_35 (by decide) (fun c_35 => ?_) (fun c_35 => absurd c_35 ((by decide)))
    exact w_lv [2, 0, 1] (s42 I1 (by rw [c98]; exact h) c43 (by rw [c42, a3, hsn]) c19 c41 c94 cfr)
  | false =>
    rw [hx9, if_neg (by decide)] at hsn
    by_cases h64 : lostMin os < 64
    · rw [if_pos h64] at a3
      have a3' := c42.trans a3
      refine w_aload_n dX7_leads_0 rfl ?_
      refine w_dup dX7_leads_1 rfl ?_
      refine x_geti (ci := 7) (k := 41) dX7_leads_2 rfl (by decide) (by decide) (by omega) fl_X7_292 rfl ?_
      refine w_iconst (v := 1) dX7_leads_5 (by decide) ?_
      refine w_iadd dX7_leads_6 ?_
      refine x_puti (ci := 7) (k := 41) dX7_leads_7 rfl (by decide) (by decide) (by omega) fl_X7_292 rfl rfl ?_
      refine w_aload_n dX7_leads_10 rfl ?_
      refine x_getr (ci := 7) (k := 18) (a := 94) dX7_leads_11 rfl (by decide) (by decide) (by omega) fl_X7_54 (Or.inr ⟨_, rfl⟩) hR.2.2.2.2.2.2.2.2.2.2.2.2.2.2.2.1 ?_
      refine w_aload_n dX7_leads_14 rfl ?_
      refine w_iload_n dX7_leads_15 rfl ?_
      refine y_callV dX7_leads_16 lk_X7_295 [.int (nI t)] rfl (m_valueAt E l hR ht (by rw [show up2 I 79 41 (I 79 41 + 1) 98 t = I 98 t from rfl]; exact h) ⟨x1, x2⟩) (g_recv.obj (ci := 7) rfl (by decide) (show 79 < N by omega)) rfl ⟨⟨by decide, by decide⟩, by decide, by decide⟩ (lb rfl) ?_
      refine w_aload_n dX7_leads_19 rfl ?_
      refine x_geti (ci := 7) (k := 19) dX7_leads_20 rfl (by decide) (by decide) (by omega) fl_X7_95 rfl ?_
      rw [show up2 I 79 41 (I 79 41 + 1) 79 19 = nI r from a1]
      refine x_iast (j := x.2.2) dX7_leads_23 rfl (by omega) rfl (show x.2.2 < 512 by omega) ?_
      rw [hI1]
      refine w_aload_n dX7_leads_24 rfl ?_
      refine w_iload_n dX7_leads_25 rfl ?_
      refine y_callV dX7_leads_26 lk_X7_298 [.int (nI t)] rfl (m_lengthAt E l hR ht (by rw [c98]; exact h) ⟨x1, x2⟩) (g_recv.obj (ci := 7) rfl (by decide) (show 79 < N by omega)) rfl ⟨⟨by decide, by decide⟩, by decide, by decide⟩ (lb rfl) ?_
      refine w_istore_n dX7_leads_29 (by decide) rfl ?_
      refine w_aload_n dX7_leads_30 rfl ?_
      refine w_iload_n dX7_leads_31 rfl ?_
      refine y_callV dX7_leads_32 lk_X7_301 [.int (nI t)] rfl (m_isWonAt E l hR ht (by rw [c98]; exact h) ⟨x1, x2⟩) (g_recv.obj (ci := 7) rfl (by decide) (show 79 < N by omega)) rfl ⟨⟨by decide, by decide⟩, by decide, by decide⟩ (lb rfl) ?_
      rw [hx9]
      refine w_if_ne (tgt := 59) dX7_leads_35 (by decide) (fun c_35 => absurd (rfl) c_35) (fun c_35 => ?_)
      refine w_aload_n dX7_leads_38 rfl ?_
      refine x_geti (ci := 7) (k := 42) dX7_leads_39 rfl (by decide) (by decide) (by omega) fl_X7_304 rfl ?_
      rw [a3']
      refine w_iconst (v := (-1)) dX7_leads_42 (by decide) ?_
      refine w_icmp_eq (tgt := 54) dX7_leads_43 (by decide) (fun c_43 => absurd c_43 ((show ¬ nI (lostMin os) = -1 from fun q => by have := congrArg Int32.toInt q; rw [nI_toInt (show lostMin os < 2 ^ 31 by omega)] at this; have e : (-1 : Int32).toInt = -1 := rfl; omega))) (fun c_43 => ?_)
      refine w_iload_n dX7_leads_46 rfl ?_
      refine w_aload_n dX7_leads_47 rfl ?_
      refine x_geti (ci := 7) (k := 42) dX7_leads_48 rfl (by decide) (by decide) (by omega) fl_X7_304 rfl ?_
      rw [a3']
      refine w_icmp_ge (tgt := 59) dX7_leads_51 (by decide) (fun c_51 => ?_) (fun c_51 => ?_)
      · first | (have c9 := n_le (a := lostMin os) (b := x.2.1) c_51; exact w_lv [2, 0, 1] (s42 I1 (by rw [c98]; exact h) c43 (by rw [a3', hsn, Nat.min_eq_left c9, if_pos h64]) c19 c41 c94 cfr)) | (have c9 := n_nle (a := lostMin os) (b := x.2.1) c_51; exact w_lv [2, 0, 1] (put (by rw [hsn, Nat.min_eq_right (Nat.le_of_lt c9)])))
      · refine w_aload_n dX7_leads_54 rfl ?_
        refine w_iload_n dX7_leads_55 rfl ?_
        refine x_puti (ci := 7) (k := 42) dX7_leads_56 rfl (by decide) (by decide) (by omega) fl_X7_304 rfl rfl ?_
        first | (have c9 := n_le (a := lostMin os) (b := x.2.1) c_51; exact w_lv [2, 0, 1] (s42 I1 (by rw [c98]; exact h) c43 (by rw [a3', hsn, Nat.min_eq_left c9, if_pos h64]) c19 c41 c94 cfr)) | (have c9 := n_nle (a := lostMin os) (b := x.2.1) c_51; exact w_lv [2, 0, 1] (put (by rw [hsn, Nat.min_eq_right (Nat.le_of_lt c9)])))
    · rw [if_neg h64] at a3
      have a3' := c42.trans a3
      refine w_aload_n dX7_leads_0 rfl ?_
      refine w_dup dX7_leads_1 rfl ?_
      refine x_geti (ci := 7) (k := 41) dX7_leads_2 rfl (by decide) (by decide) (by omega) fl_X7_292 rfl ?_
      refine w_iconst (v := 1) dX7_leads_5 (by decide) ?_
      refine w_iadd dX7_leads_6 ?_
      refine x_puti (ci := 7) (k := 41) dX7_leads_7 rfl (by decide) (by decide) (by omega) fl_X7_292 rfl rfl ?_
      refine w_aload_n dX7_leads_10 rfl ?_
      refine x_getr (ci := 7) (k := 18) (a := 94) dX7_leads_11 rfl (by decide) (by decide) (by omega) fl_X7_54 (Or.inr ⟨_, rfl⟩) hR.2.2.2.2.2.2.2.2.2.2.2.2.2.2.2.1 ?_
      refine w_aload_n dX7_leads_14 rfl ?_
      refine w_iload_n dX7_leads_15 rfl ?_
      refine y_callV dX7_leads_16 lk_X7_295 [.int (nI t)] rfl (m_valueAt E l hR ht (by rw [show up2 I 79 41 (I 79 41 + 1) 98 t = I 98 t from rfl]; exact h) ⟨x1, x2⟩) (g_recv.obj (ci := 7) rfl (by decide) (show 79 < N by omega)) rfl ⟨⟨by decide, by decide⟩, by decide, by decide⟩ (lb rfl) ?_
      refine w_aload_n dX7_leads_19 rfl ?_
      refine x_geti (ci := 7) (k := 19) dX7_leads_20 rfl (by decide) (by decide) (by omega) fl_X7_95 rfl ?_
      rw [show up2 I 79 41 (I 79 41 + 1) 79 19 = nI r from a1]
      refine x_iast (j := x.2.2) dX7_leads_23 rfl (by omega) rfl (show x.2.2 < 512 by omega) ?_
      rw [hI1]
      refine w_aload_n dX7_leads_24 rfl ?_
      refine w_iload_n dX7_leads_25 rfl ?_
      refine y_callV dX7_leads_26 lk_X7_298 [.int (nI t)] rfl (m_lengthAt E l hR ht (by rw [c98]; exact h) ⟨x1, x2⟩) (g_recv.obj (ci := 7) rfl (by decide) (show 79 < N by omega)) rfl ⟨⟨by decide, by decide⟩, by decide, by decide⟩ (lb rfl) ?_
      refine w_istore_n dX7_leads_29 (by decide) rfl ?_
      refine w_aload_n dX7_leads_30 rfl ?_
      refine w_iload_n dX7_leads_31 rfl ?_
      refine y_callV dX7_leads_32 lk_X7_301 [.int (nI t)] rfl (m_isWonAt E l hR ht (by rw [c98]; exact h) ⟨x1, x2⟩) (g_recv.obj (ci := 7) rfl (by decide) (show 79 < N by omega)) rfl ⟨⟨by decide, by decide⟩, by decide, by decide⟩ (lb rfl) ?_
      rw [hx9]
      refine w_if_ne (tgt := 59) dX7_leads_35 (by decide) (fun c_35 => absurd (rfl) c_35) (fun c_35 => ?_)
      refine w_aload_n dX7_leads_38 rfl ?_
      refine x_geti (ci := 7) (k := 42) dX7_leads_39 rfl (by decide) (by decide) (by omega) fl_X7_304 rfl ?_
      rw [a3']
      refine w_iconst (v := (-1)) dX7_leads_42 (by decide) ?_
      refine w_icmp_eq (tgt := 54) dX7_leads_43 (by decide) (fun c_43 => ?_) (fun c_43 => absurd (rfl) c_43)
      refine w_aload_n dX7_leads_54 rfl ?_
      refine w_iload_n dX7_leads_55 rfl ?_
      refine x_puti (ci := 7) (k := 42) dX7_leads_56 rfl (by decide) (by decide) (by omega) fl_X7_304 rfl rfl ?_
      exact w_lv [2, 0, 1] (put (by rw [hsn]; omega))
end MI
