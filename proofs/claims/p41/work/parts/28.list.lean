/-! HeapGames$Solver: the moves -/
theorem nI_bit {x a : Nat} (hx : x < 2 ^ 31) (ha : a < 31) : nI x >>> (nI a &&& 31) &&& 1 = nI (x / 2 ^ a % 2) := by
  rw [nx_shr hx (by omega)]
  show _ &&& nI 1 = _
  rw [nx_and, Nat.and_one_is_mod]
theorem tb_mod {x a : Nat} : x / 2 ^ a % 2 = 0 ↔ x.testBit a = false := by
  rw [Nat.testBit_eq_decide_div_mod_eq, decide_eq_false_iff_not]
  omega
theorem bit_0 {x a : Nat} (h : nI (x / 2 ^ a % 2) = 0) : x.testBit a = false := tb_mod.mp (n_eq (b := 0) h (by omega) (by omega))
theorem bit_1 {x a : Nat} (h : ¬ nI (x / 2 ^ a % 2) = 0) : x.testBit a = true := by
  rw [← Bool.not_eq_false]
  intro q
  exact h (by rw [tb_mod.mpr q]; rfl)
def isV (R : Nat → Nat → Option Nat) (N : Nat) : Prop := 51 ≤ N ∧ R 47 0 = some 48 ∧ R 47 1 = some 49 ∧ R 47 2 = some 50
def nxOK (I : Nat → Nat → Int32) (p : Nat) (L : List Mv) : Prop := I 47 3 = nI L.length ∧ ∀ i (h : i < L.length), I 50 i = nI (p - (L[i]).code)
def frX (I I' : Nat → Nat → Int32) : Prop := (∀ o, o ≠ 47 → o ≠ 50 → I' o = I o) ∧ ∀ k, k ≠ 3 → I' 47 k = I 47 k
def alOK (I : Nat → Nat → Int32) (c : Cf) : Prop := ∀ h, h < c.m → ∀ n, n < 16 → ∃ x, x < 65536 ∧ I 49 (h * 16 + n) = nI x ∧ ∀ a, 1 ≤ a → a ≤ n → x.testBit a = c.al h n a
def svOK (I : Nat → Nat → Int32) (c : Cf) : Prop := I 47 6 = nI c.m ∧ (∃ s, I 47 7 = nI s ∧ s < 65536 ∧ (∀ a, 1 ≤ a → a ≤ 15 → s.testBit a = c.sh a) ∧ (s = 0 → ∀ a, c.sh a = false)) ∧ I 47 8 = b2i c.mi ∧ alOK I c
theorem frX.refl (I : Nat → Nat → Int32) : frX I I := ⟨fun _ _ _ => rfl, fun _ _ => rfl⟩
theorem frX.trans {I I' I'' : Nat → Nat → Int32} (h : frX I I') (h' : frX I' I'') : frX I I'' := ⟨fun o a b => (h'.1 o a b).trans (h.1 o a b), fun k a => (h'.2 k a).trans (h.2 k a)⟩
theorem svOK.fr {I I' : Nat → Nat → Int32} {c : Cf} (h : svOK I c) (f : frX I I') : svOK I' c := by
  obtain ⟨h1, ⟨s, h2, h3⟩, h4, h5⟩ := h
  refine ⟨by rw [f.2 6 (by decide)]; exact h1, ⟨s, by rw [f.2 7 (by decide)]; exact h2, h3⟩, by rw [f.2 8 (by decide)]; exact h4, ?_⟩
  intro h hh n hn
  rw [f.1 49 (by decide) (by decide)]
  exact h5 h hh n hn
theorem nxOK.add {I : Nat → Nat → Int32} {p : Nat} {L : List Mv} (h : nxOK I p L) (x : Mv) : nxOK (up2 (up2 I 50 L.length (nI (p - x.code))) 47 3 (nI (L.length + 1))) p (L ++ [x]) := by
  refine ⟨by rw [up2_s, List.length_append]; rfl, fun i hi => ?_⟩
  rw [List.length_append, List.length_singleton] at hi
  rw [up2_n _ _ (by simp)]
  rcases Nat.lt_or_ge i L.length with z | z
  · rw [up2_n _ _ (by simp; omega), List.getElem_append_left z]
    exact h.2 i z
  · obtain rfl : i = L.length := by omega
    rw [up2_s, List.getElem_append_right (Nat.le_refl _)]
    simp
theorem frX.add {I I' : Nat → Nat → Int32} (h : frX I I') (n : Nat) (v w : Int32) : frX I (up2 (up2 I' 50 n v) 47 3 w) := by
  refine ⟨fun o a b => ?_, fun k a => ?_⟩
  · rw [← h.1 o a b]; funext j; simp [up2, a, b]
  · rw [← h.2 k a]; simp [up2, a]
theorem mm_min2 {a b : Nat} (ha : a < 2 ^ 31) (hb : b < 2 ^ 31) : (if nI b < nI a then nI b else nI a) = nI (min a b) := by
  split
  · rename_i h
    rw [Nat.min_eq_right (Nat.le_of_lt (n_lt h))]
  · rename_i h
    rw [Nat.min_eq_left (n_nlt h)]
theorem mm_max2 {a b : Nat} (ha : a < 2 ^ 31) (hb : b < 2 ^ 31) : (if nI a < nI b then nI b else nI a) = nI (max a b) := by
  split
  · rename_i h
    rw [Nat.max_eq_right (Nat.le_of_lt (n_lt h))]
  · rename_i h
    rw [Nat.max_eq_left (n_nlt h)]
section SV
variable (E : GE) (l : Launch)
variable {I : Nat → Nat → Int32} {J : Nat → Nat → Int64} {R : Nat → Nat → Option Nat} {D : Nat → Nat → UInt64} {N : Nat} {ex : Bool}
set_option maxRecDepth 100000 in
theorem c_addNext (hv : isV R N) {n : Nat} (hn : I 47 3 = nI n) (hn8 : n < 81) (v : Int32) : g_Ct E l mX3_addNext 0 0 0 0 [.ref 47, .int v] (I, J, R, D, N, ex) (g_is none (up2 (up2 I 50 n v) 47 3 (nI (n + 1)), J, R, D, N, ex)) := by
  refine g_Ct.of (by decide +kernel) (lb rfl) ?_
  have h51 := hv.1
  refine w_aload_n dX3_addNext_0 rfl ?_
  refine x_geti (ci := 3) (k := 3) dX3_addNext_1 rfl (by decide) (by decide) (by omega) fl_X3_68 rfl ?_
  refine w_if_lt (tgt := 39) dX3_addNext_4 (by decide) (fun c_4 => absurd c_4 ((by rw [hn]; exact nI_pos (by omega)))) (fun c_4 => ?_)
  refine w_aload_n dX3_addNext_7 rfl ?_
  refine x_geti (ci := 3) (k := 3) dX3_addNext_8 rfl (by decide) (by decide) (by omega) fl_X3_68 rfl ?_
  refine w_aload_n dX3_addNext_11 rfl ?_
  refine x_getr (ci := 3) (k := 2) (a := 50) dX3_addNext_12 rfl (by decide) (by decide) (by omega) fl_X3_19 (Or.inr ⟨_, rfl⟩) hv.2.2.2 ?_
  refine x_alen (c := 8) (L := 81) dX3_addNext_15 rfl (by decide) (by decide) (by omega) ?_
  refine w_icmp_ge (tgt := 39) dX3_addNext_16 (by decide) (fun c_16 => absurd c_16 ((by rw [hn]; exact nI_ge (by omega) (by omega)))) (fun c_16 => ?_)
  refine w_aload_n dX3_addNext_19 rfl ?_
  refine x_getr (ci := 3) (k := 2) (a := 50) dX3_addNext_20 rfl (by decide) (by decide) (by omega) fl_X3_19 (Or.inr ⟨_, rfl⟩) hv.2.2.2 ?_
  refine w_aload_n dX3_addNext_23 rfl ?_
  refine x_geti (ci := 3) (k := 3) dX3_addNext_24 rfl (by decide) (by decide) (by omega) fl_X3_68 rfl ?_
  refine w_iload_n dX3_addNext_27 rfl ?_
  refine x_iast (j := n) dX3_addNext_28 rfl (by omega) hn hn8 ?_
  refine w_aload_n dX3_addNext_29 rfl ?_
  refine w_dup dX3_addNext_30 rfl ?_
  refine x_geti (ci := 3) (k := 3) dX3_addNext_31 rfl (by decide) (by decide) (by omega) fl_X3_68 rfl ?_
  refine w_iconst (v := 1) dX3_addNext_34 (by decide) ?_
  refine w_iadd dX3_addNext_35 ?_
  refine x_puti (ci := 3) (k := 3) dX3_addNext_36 rfl (by decide) (by decide) (by omega) fl_X3_68 rfl rfl ?_
  refine w_vret dX3_addNext_39 rfl ⟨rfl, by rw [up2_n _ _ (by simp), hn, nI_1]⟩ (by decide) (by decide)
set_option maxRecDepth 100000 in
theorem c_nextAt (hv : isV R N) {i : Nat} (hi : i < 81) : g_Ct E l mX3_nextAt 0 0 0 0 [.ref 47, .int (nI i)] (I, J, R, D, N, ex) (g_is (some (.int (I 50 i))) (I, J, R, D, N, ex)) := by
  refine g_Ct.of (by decide +kernel) (lb rfl) ?_
  have h51 := hv.1
  refine w_iload_n dX3_nextAt_0 rfl ?_
  refine w_if_lt (tgt := 22) dX3_nextAt_1 (by decide) (fun c_1 => absurd c_1 ((nI_pos (by omega)))) (fun c_1 => ?_)
  refine w_iload_n dX3_nextAt_4 rfl ?_
  refine w_aload_n dX3_nextAt_5 rfl ?_
  refine x_getr (ci := 3) (k := 2) (a := 50) dX3_nextAt_6 rfl (by decide) (by decide) (by omega) fl_X3_19 (Or.inr ⟨_, rfl⟩) hv.2.2.2 ?_
  refine x_alen (c := 8) (L := 81) dX3_nextAt_9 rfl (by decide) (by decide) (by omega) ?_
  refine w_icmp_ge (tgt := 22) dX3_nextAt_10 (by decide) (fun c_10 => absurd c_10 ((nI_ge (by omega) (by omega)))) (fun c_10 => ?_)
  refine w_aload_n dX3_nextAt_13 rfl ?_
  refine x_getr (ci := 3) (k := 2) (a := 50) dX3_nextAt_14 rfl (by decide) (by decide) (by omega) fl_X3_19 (Or.inr ⟨_, rfl⟩) hv.2.2.2 ?_
  refine w_iload_n dX3_nextAt_17 rfl ?_
  refine x_iald (j := i) dX3_nextAt_18 rfl (by omega) rfl hi ?_
  refine w_goto (tgt := 23) dX3_nextAt_19 (by decide) ?_
  refine w_iret dX3_nextAt_23 rfl rfl ⟨rfl, rfl⟩ (by decide) (by decide)
set_option maxRecDepth 100000 in
theorem c_addTakes (hv : isV R N) {c : Cf} (hc : c.ok) (hs : svOK I c) {p h : Nat} (hp : p < 262144) (hh : h < c.m) {L : List Mv} (hL : nxOK I p L) (hl8 : L.length + (amt (c.al h (dig p h)) (dig p h)).length ≤ 81) :
    g_Ct E l mX3_addTakes 1 21 0 0 [.ref 47, .int (nI p), .int (nI h)] (I, J, R, D, N, ex) (g_rv (fun I' => nxOK I' p (L ++ (amt (c.al h (dig p h)) (dig p h)).map (Mv.take h)) ∧ frX I I') J R D N ex) := by
  refine g_Ct.of (by decide +kernel) (lb rfl) ?_
  have h51 := hv.1
  have hm4 := hc.1
  have hd := dig_lt p h
  obtain ⟨x, hx, hIx, hbit⟩ := hs.2.2.2 h hh _ hd
  have loop : ∀ (f a : Nat) (I' : Nat → Nat → Int32), a + f = dig p h → nxOK I' p (L ++ (amt (c.al h (dig p h)) a).map (Mv.take h)) → frX I I' → g_Wp E l mX3_addTakes { frames := 1, cells := 0, slots := 0, locals := 21 } (g_Fin E (g_rv (fun I' => nxOK I' p (L ++ (amt (c.al h (dig p h)) (dig p h)).map (Mv.take h)) ∧ frX I I') J R D N ex) 0 0) 0 0 45 [(6, .int (nI (a + 1))), (5, .int (nI x)), (3, .int (nI (dig p h))), (0, .ref 47), (1, .int (nI p)), (2, .int (nI h))] [] (I', J, R, D, N, ex) := by
    intro f
    induction f with
    | zero =>
      intro a I' ha h1 h2
      obtain rfl : a = dig p h := by omega
      refine w_iload dX3_addTakes_45 rfl ?_
      refine w_iload_n dX3_addTakes_47 rfl ?_
      refine w_icmp_gt (tgt := 79) dX3_addTakes_48 (by decide) (fun c_48 => ?_) (fun c_48 => absurd ((nI_lt (by omega) (by omega))) c_48)
      refine w_vret dX3_addTakes_79 rfl ⟨_, rfl, ⟨h1, h2⟩, rfl⟩ (by decide) (by decide)
    | succ f ih =>
      intro a I' ha h1 h2
      have hlen : (L ++ (amt (c.al h (dig p h)) a).map (Mv.take h)).length < 81 ∨ c.al h (dig p h) (a + 1) = false := by
        cases hq : c.al h (dig p h) (a + 1) with
        | false => exact Or.inr rfl
        | true =>
          left
          rw [List.length_append, List.length_map]
          have h3 := amt_mono (c.al h (dig p h)) (a + 1) (dig p h) (by omega)
          rw [amt, List.length_append, hq, if_pos rfl, List.length_singleton] at h3
          omega
      have hcode : (a + 1) * 2 ^ (4 * h) ≤ p := by
        have hle : a + 1 ≤ dig p h := by omega
        have h3 : dig p h * 2 ^ (4 * h) ≤ p := Nat.le_trans (Nat.mul_le_mul_right _ (Nat.mod_le _ _)) (Nat.div_mul_le_self _ _)
        exact Nat.le_trans (Nat.mul_le_mul_right _ hle) h3
      refine w_iload dX3_addTakes_45 rfl ?_
      refine w_iload_n dX3_addTakes_47 rfl ?_
      refine w_icmp_gt (tgt := 79) dX3_addTakes_48 (by decide) (fun c_48 => absurd c_48 ((nI_nlt (by omega) (by omega)))) (fun c_48 => ?_)
      refine w_iload dX3_addTakes_51 rfl ?_
      refine w_iload dX3_addTakes_53 rfl ?_
      refine w_ishr dX3_addTakes_55 ?_
      refine w_iconst (v := 1) dX3_addTakes_56 (by decide) ?_
      refine w_iand dX3_addTakes_57 ?_
      rw [nI_bit (by omega) (by omega)]
      refine w_if_eq (tgt := 73) dX3_addTakes_58 (by decide) (fun c_58 => ?_) (fun c_58 => ?_)
      · refine w_iinc (v := nI (a + 1 + 1)) dX3_addTakes_73 rfl (nI_inc _) (by decide) rfl ?_
        refine w_goto (tgt := 45) dX3_addTakes_76 (by decide) ?_
        first
        | (have hq := bit_0 c_58; rw [hbit (a + 1) (by omega) (by omega)] at hq; refine w_lv [6, 5, 3, 0, 1, 2] (ih (a + 1) _ (by omega) ?_ h2); rw [amt, hq]; simpa using h1)
        | (have hq := bit_1 c_58; rw [hbit (a + 1) (by omega) (by omega)] at hq; refine w_lv [6, 5, 3, 0, 1, 2] (ih (a + 1) _ (by omega) ?_ (h2.add _ _ _)); rw [amt, hq, if_pos rfl, List.map_append, ← List.append_assoc]; exact h1.add (Mv.take h (a + 1)))
      · refine w_aload_n dX3_addTakes_61 rfl ?_
        refine w_iload_n dX3_addTakes_62 rfl ?_
        refine w_iload dX3_addTakes_63 rfl ?_
        refine w_iconst (v := 4) dX3_addTakes_65 (by decide) ?_
        refine w_iload_n dX3_addTakes_66 rfl ?_
        refine w_imul dX3_addTakes_67 ?_
        rw [show (4 : Int32) * nI h = nI (4 * h) from sh4]
        refine w_ishl dX3_addTakes_68 ?_
        rw [nx_shl (by omega)]
        refine w_isub dX3_addTakes_69 ?_
        rw [pk_sub hcode]
        refine z_callV dX3_addTakes_70 lk_X3_80 [.int (nI (p - (a + 1) * 2 ^ (4 * h)))] rfl (c_addNext E l hv h1.1 (by rcases hlen with z | z; exact z; rw [← hbit (a + 1) (by omega) (by omega), bit_1 c_58] at z; cases z) _) (g_recv.obj (ci := 3) rfl (by decide) (show 47 < N by omega)) rfl ⟨⟨by decide, by decide⟩, by decide, by decide⟩ (lb rfl) ?_
        refine w_iinc (v := nI (a + 1 + 1)) dX3_addTakes_73 rfl (nI_inc _) (by decide) rfl ?_
        refine w_goto (tgt := 45) dX3_addTakes_76 (by decide) ?_
        first
        | (have hq := bit_0 c_58; rw [hbit (a + 1) (by omega) (by omega)] at hq; refine w_lv [6, 5, 3, 0, 1, 2] (ih (a + 1) _ (by omega) ?_ h2); rw [amt, hq]; simpa using h1)
        | (have hq := bit_1 c_58; rw [hbit (a + 1) (by omega) (by omega)] at hq; refine w_lv [6, 5, 3, 0, 1, 2] (ih (a + 1) _ (by omega) ?_ (h2.add _ _ _)); rw [amt, hq, if_pos rfl, List.map_append, ← List.append_assoc]; exact h1.add (Mv.take h (a + 1)))
  refine w_iload_n dX3_addTakes_0 rfl ?_
  refine w_iload_n dX3_addTakes_1 rfl ?_
  refine y_callSN dX3_addTakes_2 lk_X3_84 [.int (nI p), .int (nI h)] rfl (c_bitsOf E l _ _ _) rfl ⟨⟨by decide, by decide⟩, by decide, by decide⟩ (lb rfl) ?_
  rw [bits_nI (by omega) (by omega)]
  refine w_st (show _ = [.int (nI (dig p h))] from rfl) ?_
  refine w_istore_n dX3_addTakes_5 (by decide) rfl ?_
  refine w_iload_n dX3_addTakes_6 rfl ?_
  refine w_bipush (v := 16) dX3_addTakes_7 (by decide) ?_
  refine w_imul dX3_addTakes_9 ?_
  refine w_st (show _ = [.int (nI (h * 16))] from by rw [← pk_mul]; rfl) ?_
  refine w_iload_n dX3_addTakes_10 rfl ?_
  refine w_iadd dX3_addTakes_11 ?_
  rw [nI_add]
  refine w_istore dX3_addTakes_12 (by decide) rfl ?_
  refine w_iload dX3_addTakes_14 rfl ?_
  refine w_if_lt (tgt := 39) dX3_addTakes_16 (by decide) (fun c_16 => absurd c_16 ((nI_pos (by omega)))) (fun c_16 => ?_)
  refine w_iload dX3_addTakes_19 rfl ?_
  refine w_aload_n dX3_addTakes_21 rfl ?_
  refine x_getr (ci := 3) (k := 1) (a := 49) dX3_addTakes_22 rfl (by decide) (by decide) (by omega) fl_X3_16 (Or.inr ⟨_, rfl⟩) hv.2.2.1 ?_
  refine x_alen (c := 8) (L := 64) dX3_addTakes_25 rfl (by decide) (by decide) (by omega) ?_
  refine w_icmp_ge (tgt := 39) dX3_addTakes_26 (by decide) (fun c_26 => absurd c_26 ((nI_ge (by omega) (by omega)))) (fun c_26 => ?_)
  refine w_aload_n dX3_addTakes_29 rfl ?_
  refine x_getr (ci := 3) (k := 1) (a := 49) dX3_addTakes_30 rfl (by decide) (by decide) (by omega) fl_X3_16 (Or.inr ⟨_, rfl⟩) hv.2.2.1 ?_
  refine w_iload dX3_addTakes_33 rfl ?_
  refine x_iald (j := h * 16 + dig p h) dX3_addTakes_35 rfl (by omega) rfl (show _ < 64 by omega) ?_
  rw [hIx]
  refine w_goto (tgt := 40) dX3_addTakes_36 (by decide) ?_
  refine w_istore dX3_addTakes_40 (by decide) rfl ?_
  refine w_iconst (v := 1) dX3_addTakes_42 (by decide) ?_
  refine w_istore dX3_addTakes_43 (by decide) rfl ?_
  refine w_lv [6, 5, 3, 0, 1, 2] (loop (dig p h) 0 I (by omega) (by simpa [amt] using hL) (frX.refl I))
set_option maxRecDepth 100000 in
theorem c_addShared (hv : isV R N) {c : Cf} (hc : c.ok) (hs : svOK I c) {p h o : Nat} (hp : p < 262144) (hh : h < o) (ho : o < c.m) {L : List Mv} (hL : nxOK I p L) (hl8 : L.length + (amt c.sh (min (dig p h) (dig p o))).length ≤ 81) :
    g_Ct E l mX3_addShared 1 21 0 0 [.ref 47, .int (nI p), .int (nI h), .int (nI o)] (I, J, R, D, N, ex) (g_rv (fun I' => nxOK I' p (L ++ (amt c.sh (min (dig p h) (dig p o))).map (Mv.both h o)) ∧ frX I I') J R D N ex) := by
  refine g_Ct.of (by decide +kernel) (lb rfl) ?_
  have h51 := hv.1
  have hm4 := hc.1
  have hd := dig_lt p h
  have hd2 := dig_lt p o
  obtain ⟨x, hIx, hx, hbit, hx0⟩ := hs.2.1
  generalize hM : min (dig p h) (dig p o) = M at hl8 ⊢
  have loop : ∀ (f a : Nat) (I' : Nat → Nat → Int32), a + f = M → nxOK I' p (L ++ (amt c.sh a).map (Mv.both h o)) → frX I I' → g_Wp E l mX3_addShared { frames := 1, cells := 0, slots := 0, locals := 21 } (g_Fin E (g_rv (fun I' => nxOK I' p (L ++ (amt c.sh M).map (Mv.both h o)) ∧ frX I I') J R D N ex) 0 0) 0 0 39 [(6, .int (nI (a + 1))), (5, .int (nI M)), (4, .int (nI (2 ^ (4 * h) + 2 ^ (4 * o)))), (0, .ref 47), (1, .int (nI p))] [] (I', J, R, D, N, ex) := by
    intro f
    induction f with
    | zero =>
      intro a I' ha h1 h2
      obtain rfl : a = M := by omega
      refine w_iload dX3_addShared_39 rfl ?_
      refine w_iload dX3_addShared_41 rfl ?_
      refine w_icmp_gt (tgt := 75) dX3_addShared_43 (by decide) (fun c_43 => ?_) (fun c_43 => absurd ((nI_lt (by omega) (by omega))) c_43)
      refine w_vret dX3_addShared_75 rfl ⟨_, rfl, ⟨h1, h2⟩, rfl⟩ (by decide) (by decide)
    | succ f ih =>
      intro a I' ha h1 h2
      have hlen : (L ++ (amt c.sh a).map (Mv.both h o)).length < 81 ∨ c.sh (a + 1) = false := by
        cases hq : c.sh (a + 1) with
        | false => exact Or.inr rfl
        | true =>
          left
          rw [List.length_append, List.length_map]
          have h3 := amt_mono c.sh (a + 1) M (by omega)
          rw [amt, List.length_append, hq, if_pos rfl, List.length_singleton] at h3
          omega
      have hcode : c.sh (a + 1) = true → (a + 1) * (2 ^ (4 * h) + 2 ^ (4 * o)) ≤ p := fun hq => (mv_wt (x := Mv.both h o (a + 1)) hm4 (show mvOK c p _ from ⟨hh, ho, (by omega : 1 ≤ a + 1), (by omega : a + 1 ≤ dig p h), (by omega : a + 1 ≤ dig p o), hq⟩)).2.1
      refine w_iload dX3_addShared_39 rfl ?_
      refine w_iload dX3_addShared_41 rfl ?_
      refine w_icmp_gt (tgt := 75) dX3_addShared_43 (by decide) (fun c_43 => absurd c_43 ((nI_nlt (by omega) (by omega)))) (fun c_43 => ?_)
      refine w_aload_n dX3_addShared_46 rfl ?_
      refine x_geti (ci := 3) (k := 7) dX3_addShared_47 rfl (by decide) (by decide) (by omega) fl_X3_52 rfl ?_
      rw [show I' 47 7 = nI x by rw [h2.2 7 (by decide)]; exact hIx]
      refine w_iload dX3_addShared_50 rfl ?_
      refine w_ishr dX3_addShared_52 ?_
      refine w_iconst (v := 1) dX3_addShared_53 (by decide) ?_
      refine w_iand dX3_addShared_54 ?_
      rw [nI_bit (by omega) (by omega)]
      refine w_if_eq (tgt := 69) dX3_addShared_55 (by decide) (fun c_55 => ?_) (fun c_55 => ?_)
      · refine w_iinc (v := nI (a + 1 + 1)) dX3_addShared_69 rfl (nI_inc _) (by decide) rfl ?_
        refine w_goto (tgt := 39) dX3_addShared_72 (by decide) ?_
        first
        | (have hq := bit_0 c_55; rw [hbit (a + 1) (by omega) (by omega)] at hq; refine w_lv [6, 5, 4, 0, 1] (ih (a + 1) _ (by omega) ?_ h2); rw [amt, hq]; simpa using h1)
        | (refine w_lv [6, 5, 4, 0, 1] (ih (a + 1) _ (by omega) ?_ (h2.add _ _ _)); rw [amt, hq, if_pos rfl, List.map_append, ← List.append_assoc]; exact h1.add (Mv.both h o (a + 1)))
      · have hq := bit_1 c_55
        rw [hbit (a + 1) (by omega) (by omega)] at hq
        refine w_aload_n dX3_addShared_58 rfl ?_
        refine w_iload_n dX3_addShared_59 rfl ?_
        refine w_iload dX3_addShared_60 rfl ?_
        refine w_iload dX3_addShared_62 rfl ?_
        refine w_imul dX3_addShared_64 ?_
        rw [pk_mul]
        refine w_isub dX3_addShared_65 ?_
        rw [pk_sub (hcode hq)]
        refine z_callV dX3_addShared_66 lk_X3_80 [.int (nI (p - (a + 1) * (2 ^ (4 * h) + 2 ^ (4 * o))))] rfl (c_addNext E l hv h1.1 (by rcases hlen with z | z; exact z; rw [hq] at z; cases z) _) (g_recv.obj (ci := 3) rfl (by decide) (show 47 < N by omega)) rfl ⟨⟨by decide, by decide⟩, by decide, by decide⟩ (lb rfl) ?_
        refine w_iinc (v := nI (a + 1 + 1)) dX3_addShared_69 rfl (nI_inc _) (by decide) rfl ?_
        refine w_goto (tgt := 39) dX3_addShared_72 (by decide) ?_
        first
        | (have hq := bit_0 c_55; rw [hbit (a + 1) (by omega) (by omega)] at hq; refine w_lv [6, 5, 4, 0, 1] (ih (a + 1) _ (by omega) ?_ h2); rw [amt, hq]; simpa using h1)
        | (refine w_lv [6, 5, 4, 0, 1] (ih (a + 1) _ (by omega) ?_ (h2.add _ _ _)); rw [amt, hq, if_pos rfl, List.map_append, ← List.append_assoc]; exact h1.add (Mv.both h o (a + 1)))
  refine w_aload_n dX3_addShared_0 rfl ?_
  refine x_geti (ci := 3) (k := 7) dX3_addShared_1 rfl (by decide) (by decide) (by omega) fl_X3_52 rfl ?_
  refine w_if_ne (tgt := 8) dX3_addShared_4 (by decide) (fun c_4 => ?_) (fun c_4 => ?_)
  · refine w_iconst (v := 1) dX3_addShared_8 (by decide) ?_
    refine w_iconst (v := 4) dX3_addShared_9 (by decide) ?_
    refine w_iload_n dX3_addShared_10 rfl ?_
    refine w_imul dX3_addShared_11 ?_
    rw [show (4 : Int32) * nI h = nI (4 * h) from sh4]
    refine w_ishl dX3_addShared_12 ?_
    rw [show (1 : Int32) = nI 1 from rfl, nx_shl (by omega), Nat.one_mul]
    refine w_iconst (v := 1) dX3_addShared_13 (by decide) ?_
    refine w_iconst (v := 4) dX3_addShared_14 (by decide) ?_
    refine w_iload_n dX3_addShared_15 rfl ?_
    refine w_imul dX3_addShared_16 ?_
    rw [show (4 : Int32) * nI o = nI (4 * o) from sh4]
    refine w_ishl dX3_addShared_17 ?_
    refine w_st (show _ = [.int (nI (2 ^ (4 * o))), .int (nI (2 ^ (4 * h)))] from by rw [show (1 : Int32) = nI 1 from rfl, nx_shl (by omega), Nat.one_mul]) ?_
    refine w_iadd dX3_addShared_18 ?_
    rw [nI_add]
    refine w_istore dX3_addShared_19 (by decide) rfl ?_
    refine w_iload_n dX3_addShared_21 rfl ?_
    refine w_iload_n dX3_addShared_22 rfl ?_
    refine y_callSN dX3_addShared_23 lk_X3_84 [.int (nI p), .int (nI h)] rfl (c_bitsOf E l _ _ _) rfl ⟨⟨by decide, by decide⟩, by decide, by decide⟩ (lb rfl) ?_
    rw [bits_nI (by omega) (by omega)]
    refine w_st (show _ = [.int (nI (dig p h))] from rfl) ?_
    refine w_iload_n dX3_addShared_26 rfl ?_
    refine w_iload_n dX3_addShared_27 rfl ?_
    refine y_callSN dX3_addShared_28 lk_X3_84 [.int (nI p), .int (nI o)] rfl (c_bitsOf E l _ _ _) rfl ⟨⟨by decide, by decide⟩, by decide, by decide⟩ (lb rfl) ?_
    rw [bits_nI (by omega) (by omega)]
    refine w_st (show _ = [.int (nI (dig p o)), .int (nI (dig p h))] from rfl) ?_
    refine w_mmin dX3_addShared_31 lk_X3_88.2.2.1 (by decide) (lb rfl) (by decide) (by decide) ?_
    rw [mm_min2 (by omega) (by omega), hM]
    refine w_istore dX3_addShared_34 (by decide) rfl ?_
    refine w_iconst (v := 1) dX3_addShared_36 (by decide) ?_
    refine w_istore dX3_addShared_37 (by decide) rfl ?_
    refine w_lv [6, 5, 4, 0, 1] (loop M 0 I (by omega) (by simpa [amt] using hL) (frX.refl I))
  · refine w_vret dX3_addShared_7 rfl ⟨_, rfl, ⟨by rw [show amt c.sh M = [] from List.eq_nil_iff_forall_not_mem.mpr (fun a ha => by have := (mem_amt.mp ha).2.2; rw [hx0 (n_eq (b := 0) (hIx ▸ c_4) (by omega) (by omega)) a] at this; cases this)]; simpa using hL, frX.refl I⟩, rfl⟩ (by decide) (by decide)
set_option maxRecDepth 100000 in
theorem c_listNext (hv : isV R N) {c : Cf} (hc : c.ok) (hs : svOK I c) {p : Nat} (hp : p < 262144) :
    g_Ct E l mX3_listNext 2 47 0 0 [.ref 47, .int (nI p)] (I, J, R, D, N, ex) (g_ri (fun x I' => x = nI (mvs c p).length ∧ nxOK I' p (mvs c p) ∧ frX I I') J R D N ex) := by
  refine g_Ct.of (by decide +kernel) (lb rfl) ?_
  have h51 := hv.1
  have hm4 := hc.1
  have loop3 : ∀ (f h : Nat) (I' : Nat → Nat → Int32), h + f = c.m → nxOK I' p (mvT c p c.m ++ mvB c p h) → frX I I' → g_Wp E l mX3_listNext { frames := 2, cells := 0, slots := 0, locals := 47 } (g_Fin E (g_ri (fun x I' => x = nI (mvs c p).length ∧ nxOK I' p (mvs c p) ∧ frX I I') J R D N ex) 0 0) 0 0 29 [(2, .int (nI h)), (0, .ref 47), (1, .int (nI p))] [] (I', J, R, D, N, ex) := by
    intro f
    induction f with
    | zero =>
      intro h I' hh h1 h2
      obtain rfl : h = c.m := by omega
      have h6 : I' 47 6 = nI c.m := by rw [h2.2 6 (by decide)]; exact hs.1
      have hPl : (mvP c p).length ≤ 80 := by
        have a := mvT_len hc p c.m (Nat.le_refl _)
        have b := mvB_len hc p c.m
        have d := pairs_le c.m hc.1 c.m (Nat.le_refl _)
        unfold mvP
        rw [List.length_append]
        omega
      have h1' : nxOK I' p (mvP c p) := h1
      have r1 : (I' 47 3 ≤ 0 ∨ nI p < 65536) → I' 47 3 = nI (mvs c p).length ∧ nxOK I' p (mvs c p) ∧ frX I I' := by
        intro h
        have e : mvs c p = mvP c p := by
          unfold mvs
          rw [if_neg, List.append_nil]
          rintro ⟨q1, q2⟩
          rcases h with h | h
          · rw [h1'.1] at h
            have := n_le (b := 0) h (by omega) (by omega)
            exact q1 (List.eq_nil_of_length_eq_zero (by omega))
          · have := n_lt (a := p) (b := 65536) h (by omega) (by omega)
            omega
        rw [e]
        exact ⟨h1'.1, h1', h2⟩
      have r2 : ¬ I' 47 3 ≤ 0 → ¬ nI p < 65536 → up2 (up2 I' 50 (mvP c p).length (nI (p - 65536))) 47 3 (nI ((mvP c p).length + 1)) 47 3 = nI (mvs c p).length ∧ nxOK (up2 (up2 I' 50 (mvP c p).length (nI (p - 65536))) 47 3 (nI ((mvP c p).length + 1))) p (mvs c p) ∧ frX I (up2 (up2 I' 50 (mvP c p).length (nI (p - 65536))) 47 3 (nI ((mvP c p).length + 1))) := by
        intro h h8
        have e : mvs c p = mvP c p ++ [Mv.pass] := by
          unfold mvs
          rw [if_pos]
          refine ⟨fun q => h ?_, n_nlt (a := p) (b := 65536) h8 (by omega) (by omega)⟩
          rw [h1'.1, q]
          decide
        rw [e]
        have t := h1'.add Mv.pass
        exact ⟨t.1, t, h2.add _ _ _⟩
      refine w_iload_n dX3_listNext_29 rfl ?_
      refine w_aload_n dX3_listNext_30 rfl ?_
      refine x_geti (ci := 3) (k := 6) dX3_listNext_31 rfl (by decide) (by decide) (by omega) fl_X3_48 rfl ?_
      refine w_icmp_ge (tgt := 68) dX3_listNext_34 (by decide) (fun c_34 => ?_) (fun c_34 => absurd ((by rw [h6]; exact nI_le (by omega) (by omega))) c_34)
      refine w_aload_n dX3_listNext_68 rfl ?_
      refine x_geti (ci := 3) (k := 3) dX3_listNext_69 rfl (by decide) (by decide) (by omega) fl_X3_68 rfl ?_
      refine w_if_le (tgt := 89) dX3_listNext_72 (by decide) (fun c_72 => ?_) (fun c_72 => ?_)
      · refine w_aload_n dX3_listNext_89 rfl ?_
        refine x_geti (ci := 3) (k := 3) dX3_listNext_90 rfl (by decide) (by decide) (by omega) fl_X3_68 rfl ?_
        refine w_iret dX3_listNext_93 rfl rfl (by first | exact ⟨_, _, rfl, r1 (Or.inl c_72), rfl⟩ | exact ⟨_, _, rfl, r1 (Or.inr c_78), rfl⟩ | exact ⟨_, _, rfl, r2 c_72 c_78, rfl⟩) (by decide) (by decide)
      · refine w_iload_n dX3_listNext_75 rfl ?_
        refine w_ldc dX3_listNext_76 kc_X3_79 ?_
        refine w_icmp_lt (tgt := 89) dX3_listNext_78 (by decide) (fun c_78 => ?_) (fun c_78 => ?_)
        · refine w_aload_n dX3_listNext_89 rfl ?_
          refine x_geti (ci := 3) (k := 3) dX3_listNext_90 rfl (by decide) (by decide) (by omega) fl_X3_68 rfl ?_
          refine w_iret dX3_listNext_93 rfl rfl (by first | exact ⟨_, _, rfl, r1 (Or.inl c_72), rfl⟩ | exact ⟨_, _, rfl, r1 (Or.inr c_78), rfl⟩ | exact ⟨_, _, rfl, r2 c_72 c_78, rfl⟩) (by decide) (by decide)
        · refine w_aload_n dX3_listNext_81 rfl ?_
          refine w_iload_n dX3_listNext_82 rfl ?_
          refine w_ldc dX3_listNext_83 kc_X3_79 ?_
          refine w_isub dX3_listNext_85 ?_
          rw [show nI p - 65536 = nI (p - 65536) from pk_sub (b := 65536) (n_nlt (a := p) (b := 65536) c_78)]
          refine z_callV dX3_listNext_86 lk_X3_80 [.int (nI (p - 65536))] rfl (c_addNext E l hv h1'.1 (by omega) _) (g_recv.obj (ci := 3) rfl (by decide) (show 47 < N by omega)) rfl ⟨⟨by decide, by decide⟩, by decide, by decide⟩ (lb rfl) ?_
          refine w_aload_n dX3_listNext_89 rfl ?_
          refine x_geti (ci := 3) (k := 3) dX3_listNext_90 rfl (by decide) (by decide) (by omega) fl_X3_68 rfl ?_
          refine w_iret dX3_listNext_93 rfl rfl (by first | exact ⟨_, _, rfl, r1 (Or.inl c_72), rfl⟩ | exact ⟨_, _, rfl, r1 (Or.inr c_78), rfl⟩ | exact ⟨_, _, rfl, r2 c_72 c_78, rfl⟩) (by decide) (by decide)
    | succ f ih =>
      intro h I' hh h1 h2
      have inner : ∀ (g o : Nat) (I' : Nat → Nat → Int32), o + g = c.m → h + 1 ≤ o → nxOK I' p (mvT c p c.m ++ mvB c p h ++ mvS c p h o) → frX I I' → g_Wp E l mX3_listNext { frames := 2, cells := 0, slots := 0, locals := 47 } (g_Fin E (g_ri (fun x I' => x = nI (mvs c p).length ∧ nxOK I' p (mvs c p) ∧ frX I I') J R D N ex) 0 0) 0 0 41 [(3, .int (nI o)), (2, .int (nI h)), (0, .ref 47), (1, .int (nI p))] [] (I', J, R, D, N, ex) := by
        intro g
        induction g with
        | zero =>
          intro o I' ho hle h1 h2
          obtain rfl : o = c.m := by omega
          have h6 : I' 47 6 = nI c.m := by rw [h2.2 6 (by decide)]; exact hs.1
          refine w_iload_n dX3_listNext_41 rfl ?_
          refine w_aload_n dX3_listNext_42 rfl ?_
          refine x_geti (ci := 3) (k := 6) dX3_listNext_43 rfl (by decide) (by decide) (by omega) fl_X3_48 rfl ?_
          refine w_icmp_ge (tgt := 62) dX3_listNext_46 (by decide) (fun c_46 => ?_) (fun c_46 => absurd ((by rw [h6]; exact nI_le (by omega) (by omega))) c_46)
          refine w_iinc (v := nI (h + 1)) dX3_listNext_62 rfl (nI_inc _) (by decide) rfl ?_
          refine w_goto (tgt := 29) dX3_listNext_65 (by decide) ?_
          refine w_lv [2, 0, 1] (ih (h + 1) _ (by omega) (by rw [mvB, ← List.append_assoc]; exact h1) h2)
        | succ g ihg =>
          intro o I' ho hle h1 h2
          have h6 : I' 47 6 = nI c.m := by rw [h2.2 6 (by decide)]; exact hs.1
          have hlen : (mvT c p c.m ++ mvB c p h ++ mvS c p h o).length + (amt c.sh (min (dig p h) (dig p o))).length ≤ 81 := by
            have a := mvT_len hc p c.m (Nat.le_refl _)
            have b := mvB_len hc p h
            have b2 := mvS_len hc p h o
            have b3 := hc.2.2 (min (dig p h) (dig p o)) (by have := dig_lt p h; omega)
            have d := pairs_le2 c.m hc.1 h (by omega) o (by omega) (by omega)
            rw [List.length_append, List.length_append]
            omega
          refine w_iload_n dX3_listNext_41 rfl ?_
          refine w_aload_n dX3_listNext_42 rfl ?_
          refine x_geti (ci := 3) (k := 6) dX3_listNext_43 rfl (by decide) (by decide) (by omega) fl_X3_48 rfl ?_
          refine w_icmp_ge (tgt := 62) dX3_listNext_46 (by decide) (fun c_46 => absurd c_46 ((by rw [h6]; exact nI_ge (by omega) (by omega)))) (fun c_46 => ?_)
          refine w_aload_n dX3_listNext_49 rfl ?_
          refine w_iload_n dX3_listNext_50 rfl ?_
          refine w_iload_n dX3_listNext_51 rfl ?_
          refine w_iload_n dX3_listNext_52 rfl ?_
          refine u_callV dX3_listNext_53 lk_X3_75 [.int (nI p), .int (nI h), .int (nI o)] rfl (c_addShared E l hv hc (hs.fr h2) hp (h := h) (o := o) (by omega) (by omega) h1 hlen) (g_recv.obj (ci := 3) rfl (by decide) (show 47 < N by omega)) rfl ⟨⟨by decide, by decide⟩, by decide, by decide⟩ (lb rfl) (fun I2 h_53 => ?_)
          refine w_iinc (v := nI (o + 1)) dX3_listNext_56 rfl (nI_inc _) (by decide) rfl ?_
          refine w_goto (tgt := 41) dX3_listNext_59 (by decide) ?_
          refine w_lv [3, 2, 0, 1] (ihg (o + 1) I2 (by omega) (by omega) (by rw [mvS, if_pos (by omega), ← List.append_assoc]; exact h_53.1) (h2.trans h_53.2))
      have h6 : I' 47 6 = nI c.m := by rw [h2.2 6 (by decide)]; exact hs.1
      refine w_iload_n dX3_listNext_29 rfl ?_
      refine w_aload_n dX3_listNext_30 rfl ?_
      refine x_geti (ci := 3) (k := 6) dX3_listNext_31 rfl (by decide) (by decide) (by omega) fl_X3_48 rfl ?_
      refine w_icmp_ge (tgt := 68) dX3_listNext_34 (by decide) (fun c_34 => absurd c_34 ((by rw [h6]; exact nI_ge (by omega) (by omega)))) (fun c_34 => ?_)
      refine w_iload_n dX3_listNext_37 rfl ?_
      refine w_iconst (v := 1) dX3_listNext_38 (by decide) ?_
      refine w_iadd dX3_listNext_39 ?_
      skip
      refine w_istore_n dX3_listNext_40 (by decide) rfl ?_
      refine w_lv [3, 2, 0, 1] (w_lsx (ls' := [(3, .int (nI (h + 1))), (2, .int (nI h)), (0, .ref 47), (1, .int (nI p))]) ?_ (inner (c.m - (h + 1)) (h + 1) I' (by omega) (Nat.le_refl _) (by have e : ∀ n, n ≤ h + 1 → mvS c p h n = [] := (fun n => by induction n with | zero => exact fun _ => rfl | succ n ihn => exact fun hn => by rw [mvS, ihn (by omega), if_neg (by omega)]; rfl); rw [e (h + 1) (Nat.le_refl _), List.append_nil]; exact h1) h2))
      rw [nI_1]
      intro q hq
      simp only [List.mem_cons, List.not_mem_nil, or_false] at hq
      rcases hq with rfl | rfl | rfl | rfl <;> rfl
  have loop1 : ∀ (f h : Nat) (I' : Nat → Nat → Int32), h + f = c.m → nxOK I' p (mvT c p h) → frX I I' → g_Wp E l mX3_listNext { frames := 2, cells := 0, slots := 0, locals := 47 } (g_Fin E (g_ri (fun x I' => x = nI (mvs c p).length ∧ nxOK I' p (mvs c p) ∧ frX I I') J R D N ex) 0 0) 0 0 7 [(2, .int (nI h)), (0, .ref 47), (1, .int (nI p))] [] (I', J, R, D, N, ex) := by
    intro f
    induction f with
    | zero =>
      intro h I' hh h1 h2
      obtain rfl : h = c.m := by omega
      have h6 : I' 47 6 = nI c.m := by rw [h2.2 6 (by decide)]; exact hs.1
      refine w_iload_n dX3_listNext_7 rfl ?_
      refine w_aload_n dX3_listNext_8 rfl ?_
      refine x_geti (ci := 3) (k := 6) dX3_listNext_9 rfl (by decide) (by decide) (by omega) fl_X3_48 rfl ?_
      refine w_icmp_ge (tgt := 27) dX3_listNext_12 (by decide) (fun c_12 => ?_) (fun c_12 => absurd ((by rw [h6]; exact nI_le (by omega) (by omega))) c_12)
      refine w_iconst (v := 0) dX3_listNext_27 (by decide) ?_
      refine w_istore_n dX3_listNext_28 (by decide) rfl ?_
      refine w_lv [2, 0, 1] (loop3 c.m 0 _ (by omega) (by rw [mvB, List.append_nil]; exact h1) h2)
    | succ f ih =>
      intro h I' hh h1 h2
      have h6 : I' 47 6 = nI c.m := by rw [h2.2 6 (by decide)]; exact hs.1
      have hlen : (mvT c p h).length + (amt (c.al h (dig p h)) (dig p h)).length ≤ 81 := by
        have a := mvT_len hc p h (by omega)
        have b := hc.2.1 h (by omega) _ (dig_lt p h)
        omega
      refine w_iload_n dX3_listNext_7 rfl ?_
      refine w_aload_n dX3_listNext_8 rfl ?_
      refine x_geti (ci := 3) (k := 6) dX3_listNext_9 rfl (by decide) (by decide) (by omega) fl_X3_48 rfl ?_
      refine w_icmp_ge (tgt := 27) dX3_listNext_12 (by decide) (fun c_12 => absurd c_12 ((by rw [h6]; exact nI_ge (by omega) (by omega)))) (fun c_12 => ?_)
      refine w_aload_n dX3_listNext_15 rfl ?_
      refine w_iload_n dX3_listNext_16 rfl ?_
      refine w_iload_n dX3_listNext_17 rfl ?_
      refine u_callV dX3_listNext_18 lk_X3_71 [.int (nI p), .int (nI h)] rfl (c_addTakes E l hv hc (hs.fr h2) hp (h := h) (by omega) h1 hlen) (g_recv.obj (ci := 3) rfl (by decide) (show 47 < N by omega)) rfl ⟨⟨by decide, by decide⟩, by decide, by decide⟩ (lb rfl) (fun I2 h_18 => ?_)
      refine w_iinc (v := nI (h + 1)) dX3_listNext_21 rfl (nI_inc _) (by decide) rfl ?_
      refine w_goto (tgt := 7) dX3_listNext_24 (by decide) ?_
      refine w_lv [2, 0, 1] (ih (h + 1) I2 (by omega) h_18.1 (h2.trans h_18.2))
  refine w_aload_n dX3_listNext_0 rfl ?_
  refine w_iconst (v := 0) dX3_listNext_1 (by decide) ?_
  refine x_puti (ci := 3) (k := 3) dX3_listNext_2 rfl (by decide) (by decide) (by omega) fl_X3_68 rfl rfl ?_
  refine w_iconst (v := 0) dX3_listNext_5 (by decide) ?_
  refine w_istore_n dX3_listNext_6 (by decide) rfl ?_
  refine w_lv [2, 0, 1] (loop1 c.m 0 _ (by omega) ⟨up2_s .., fun i hi => absurd hi (Nat.not_lt_zero _)⟩ ⟨fun o a b => by funext j; simp [up2, a], fun k a => by simp [up2, a]⟩)
end SV
