/-! HeapGames$State, HeapGames$Game, HeapGames$History -/
theorem mm_min {k n : Nat} (h : k ≤ n) (hn : n < 2 ^ 31) : (if nI n < nI k then nI n else nI k) = nI k := if_neg (nI_nlt (by omega) (by omega))
theorem mm_max0 {k : Nat} (hk : k < 2 ^ 31) : (if (0 : Int32) < nI k then nI k else 0) = nI k := by
  split
  · rfl
  · rename_i h
    have : k = 0 := by have := n_nlt (a := 0) h; omega
    rw [this]; rfl
def isS (R : Nat → Nat → Option Nat) (N s : Nat) : Prop := (g_ob s).1 = 4 ∧ s + 1 < N ∧ g_ob (s + 1) = (8, 40) ∧ R s 5 = some (s + 1)
def isG (R : Nat → Nat → Option Nat) (N g : Nat) : Prop := (g_ob g).1 = 0 ∧ g + 22 ≤ N ∧ g_ob (g + 1) = (13, 6) ∧ R g 0 = some (g + 1) ∧ R g 3 = some (g + 2) ∧ isS R N (g + 2) ∧ ∀ k, k < 6 → R (g + 1) k = some (g + 4 + 3 * k) ∧ isR R N (g + 4 + 3 * k)
def isH (R : Nat → Nat → Option Nat) (N : Nat) : Prop := 73 ≤ N ∧ R 51 0 = some 52 ∧ ∀ i, i < 10 → R 52 i = some (53 + 2 * i) ∧ isS R N (53 + 2 * i)
section SG
variable (E : GE) (l : Launch)
variable {I : Nat → Nat → Int32} {J : Nat → Nat → Int64} {R : Nat → Nat → Option Nat} {D : Nat → Nat → UInt64} {N : Nat} {ex : Bool} {s t g : Nat}
set_option maxRecDepth 100000 in
theorem c_St_clear (hs : isS R N s) : g_Ct E l mX4_clear 0 0 0 0 [.ref s] (I, J, R, D, N, ex) (g_rv (fun I' => (∀ o, o ≠ s → I' o = I o) ∧ ∀ k, k < 5 → I' s k = 0) J R D N ex) := by
  refine g_Ct.of (by decide +kernel) (lb rfl) ?_
  have hsN : s < N := by have := hs.2.1; omega
  refine w_aload_n dX4_clear_0 rfl ?_
  refine w_iconst (v := 0) dX4_clear_1 (by decide) ?_
  refine x_puti (ci := 4) (k := 0) dX4_clear_2 hs.1 (by decide) (by decide) hsN fl_X4_15 rfl rfl ?_
  refine w_aload_n dX4_clear_5 rfl ?_
  refine w_iconst (v := 0) dX4_clear_6 (by decide) ?_
  refine x_puti (ci := 4) (k := 1) dX4_clear_7 hs.1 (by decide) (by decide) hsN fl_X4_19 rfl rfl ?_
  refine w_aload_n dX4_clear_10 rfl ?_
  refine w_iconst (v := 0) dX4_clear_11 (by decide) ?_
  refine x_puti (ci := 4) (k := 2) dX4_clear_12 hs.1 (by decide) (by decide) hsN fl_X4_22 rfl rfl ?_
  refine w_aload_n dX4_clear_15 rfl ?_
  refine w_iconst (v := 0) dX4_clear_16 (by decide) ?_
  refine x_putz (ci := 4) (k := 3) dX4_clear_17 hs.1 (by decide) (by decide) hsN fl_X4_25 rfl rfl (by decide) ?_
  refine w_aload_n dX4_clear_20 rfl ?_
  refine w_iconst (v := 0) dX4_clear_21 (by decide) ?_
  refine x_puti (ci := 4) (k := 4) dX4_clear_22 hs.1 (by decide) (by decide) hsN fl_X4_29 rfl rfl ?_
  refine w_vret dX4_clear_25 rfl ⟨_, rfl, ⟨fun o h => by funext j; simp [up2, h], fun k hk => by rcases (show k = 0 ∨ k = 1 ∨ k = 2 ∨ k = 3 ∨ k = 4 by omega) with rfl | rfl | rfl | rfl | rfl <;> simp [up2]⟩, rfl⟩ (by decide) (by decide)
set_option maxRecDepth 100000 in
theorem c_copyFrom (hs : isS R N s) (ht : isS R N t) (hst : s ≠ t) (hb : I t 3 = 0 ∨ I t 3 = 1) : g_Ct E l mX4_copyFrom 1 60 0 0 [.ref s, .ref t] (I, J, R, D, N, ex) (g_rv (fun I' => (∀ o, o ≠ s → o ≠ s + 1 → I' o = I o) ∧ (∀ k, k < 5 → I' s k = I t k) ∧ ∀ j, j < 40 → I' (s + 1) j = I (t + 1) j) J R D N ex) := by
  refine g_Ct.of (by decide +kernel) (lb rfl) ?_
  have hsN : s < N := by have := hs.2.1; omega
  have htN : t < N := by have := ht.2.1; omega
  have hts : t ≠ s := fun q => hst q.symm
  have h1 : t + 1 ≠ s := by
    intro q
    have a := ht.2.2.1
    have b := hs.1
    rw [q] at a
    rw [a] at b
    cases b
  have h2 : s + 1 ≠ t := by
    intro q
    have a := hs.2.2.1
    have b := ht.1
    rw [q] at a
    rw [a] at b
    cases b
  refine w_aload_n dX4_copyFrom_0 rfl ?_
  refine w_aload_n dX4_copyFrom_1 rfl ?_
  refine x_geti (ci := 4) (k := 0) dX4_copyFrom_2 ht.1 (by decide) (by decide) htN fl_X4_15 rfl ?_
  refine x_puti (ci := 4) (k := 0) dX4_copyFrom_5 hs.1 (by decide) (by decide) hsN fl_X4_15 rfl rfl ?_
  refine w_aload_n dX4_copyFrom_8 rfl ?_
  refine w_aload_n dX4_copyFrom_9 rfl ?_
  refine x_geti (ci := 4) (k := 1) dX4_copyFrom_10 ht.1 (by decide) (by decide) htN fl_X4_19 rfl ?_
  refine x_puti (ci := 4) (k := 1) dX4_copyFrom_13 hs.1 (by decide) (by decide) hsN fl_X4_19 rfl rfl ?_
  refine w_aload_n dX4_copyFrom_16 rfl ?_
  refine w_aload_n dX4_copyFrom_17 rfl ?_
  refine x_geti (ci := 4) (k := 2) dX4_copyFrom_18 ht.1 (by decide) (by decide) htN fl_X4_22 rfl ?_
  refine x_puti (ci := 4) (k := 2) dX4_copyFrom_21 hs.1 (by decide) (by decide) hsN fl_X4_22 rfl rfl ?_
  refine w_aload_n dX4_copyFrom_24 rfl ?_
  refine w_aload_n dX4_copyFrom_25 rfl ?_
  refine x_getz (ci := 4) (k := 3) dX4_copyFrom_26 ht.1 (by decide) (by decide) htN fl_X4_25 rfl ?_
  refine x_putz (ci := 4) (k := 3) dX4_copyFrom_29 hs.1 (by decide) (by decide) hsN fl_X4_25 rfl rfl (by simpa [up2, hts] using hb) ?_
  refine w_aload_n dX4_copyFrom_32 rfl ?_
  refine w_aload_n dX4_copyFrom_33 rfl ?_
  refine x_geti (ci := 4) (k := 4) dX4_copyFrom_34 ht.1 (by decide) (by decide) htN fl_X4_29 rfl ?_
  refine x_puti (ci := 4) (k := 4) dX4_copyFrom_37 hs.1 (by decide) (by decide) hsN fl_X4_29 rfl rfl ?_
  refine w_aload_n dX4_copyFrom_40 rfl ?_
  refine x_getr (ci := 4) (k := 5) (a := t + 1) dX4_copyFrom_41 ht.1 (by decide) (by decide) htN fl_X4_9 (Or.inr ⟨_, rfl⟩) ht.2.2.2 ?_
  refine w_iconst (v := 0) dX4_copyFrom_44 (by decide) ?_
  refine w_aload_n dX4_copyFrom_45 rfl ?_
  refine x_getr (ci := 4) (k := 5) (a := s + 1) dX4_copyFrom_46 hs.1 (by decide) (by decide) hsN fl_X4_9 (Or.inr ⟨_, rfl⟩) hs.2.2.2 ?_
  refine w_iconst (v := 0) dX4_copyFrom_49 (by decide) ?_
  refine w_bipush (v := 40) dX4_copyFrom_50 (by decide) ?_
  refine w_copy (n := 40) dX4_copyFrom_52 lx_X4_32 ht.2.2.1 hs.2.2.1 ht.2.1 hs.2.1 rfl rfl rfl (by decide) (lb rfl) ?_
  refine w_vret dX4_copyFrom_55 rfl ⟨_, rfl, ⟨fun o p1 p2 => by funext j; simp [up2, p1, p2], fun k hk => by rcases (show k = 0 ∨ k = 1 ∨ k = 2 ∨ k = 3 ∨ k = 4 by omega) with rfl | rfl | rfl | rfl | rfl <;> simp [up2, hts], fun j hj => by simp [up2, h1, hj]⟩, rfl⟩ (by decide) (by decide)
set_option maxRecDepth 100000 in
theorem c_addLast (hs : isS R N s) {h : Nat} (hh : I s 0 = nI h) (rule cnt : Int32) : g_Ct E l mX4_addLast 1 22 0 0 [.ref s, .int rule, .int cnt] (I, J, R, D, N, ex) (g_ri (fun x I' => x = nI h ∧ (∀ o, o ≠ s → I' o = I o) ∧ I' s 0 = nI (h + 1) ∧ I' s 1 = s_with (I s 1) (nI h) rule ∧ I' s 2 = s_with (I s 2) (nI h) cnt ∧ I' s 3 = I s 3 ∧ I' s 4 = I s 4) J R D N ex) := by
  refine g_Ct.of (by decide +kernel) (lb rfl) ?_
  have hsN : s < N := by have := hs.2.1; omega
  refine w_aload_n dX4_addLast_0 rfl ?_
  refine w_aload_n dX4_addLast_1 rfl ?_
  refine x_geti (ci := 4) (k := 1) dX4_addLast_2 hs.1 (by decide) (by decide) hsN fl_X4_19 rfl ?_
  refine w_aload_n dX4_addLast_5 rfl ?_
  refine x_geti (ci := 4) (k := 0) dX4_addLast_6 hs.1 (by decide) (by decide) hsN fl_X4_15 rfl ?_
  refine w_iload_n dX4_addLast_9 rfl ?_
  refine y_callSN dX4_addLast_10 lk_X4_38 [.int (I s 1), .int (I s 0), .int rule] rfl (c_withBits E l _ _ _ _) rfl ⟨⟨by decide, by decide⟩, by decide, by decide⟩ (lb rfl) ?_
  refine x_puti (ci := 4) (k := 1) dX4_addLast_13 hs.1 (by decide) (by decide) hsN fl_X4_19 rfl rfl ?_
  refine w_aload_n dX4_addLast_16 rfl ?_
  refine w_aload_n dX4_addLast_17 rfl ?_
  refine x_geti (ci := 4) (k := 2) dX4_addLast_18 hs.1 (by decide) (by decide) hsN fl_X4_22 rfl ?_
  refine w_aload_n dX4_addLast_21 rfl ?_
  refine x_geti (ci := 4) (k := 0) dX4_addLast_22 hs.1 (by decide) (by decide) hsN fl_X4_15 rfl ?_
  refine w_st (show _ = [.int (I s 0), .int (I s 2), .ref s] from by simp [up2]) ?_
  refine w_iload_n dX4_addLast_25 rfl ?_
  refine y_callSN dX4_addLast_26 lk_X4_38 [.int (I s 2), .int (I s 0), .int cnt] rfl (c_withBits E l _ _ _ _) rfl ⟨⟨by decide, by decide⟩, by decide, by decide⟩ (lb rfl) ?_
  refine x_puti (ci := 4) (k := 2) dX4_addLast_29 hs.1 (by decide) (by decide) hsN fl_X4_22 rfl rfl ?_
  refine w_aload_n dX4_addLast_32 rfl ?_
  refine w_dup dX4_addLast_33 rfl ?_
  refine x_geti (ci := 4) (k := 0) dX4_addLast_34 hs.1 (by decide) (by decide) hsN fl_X4_15 rfl ?_
  refine w_iconst (v := 1) dX4_addLast_37 (by decide) ?_
  refine w_iadd dX4_addLast_38 ?_
  refine x_puti (ci := 4) (k := 0) dX4_addLast_39 hs.1 (by decide) (by decide) hsN fl_X4_15 rfl rfl ?_
  refine w_aload_n dX4_addLast_42 rfl ?_
  refine x_geti (ci := 4) (k := 0) dX4_addLast_43 hs.1 (by decide) (by decide) hsN fl_X4_15 rfl ?_
  refine w_iconst (v := 1) dX4_addLast_46 (by decide) ?_
  refine w_isub dX4_addLast_47 ?_
  refine w_iret dX4_addLast_48 rfl rfl ⟨_, _, rfl, ⟨by simp only [up2]; simp [hh, nI_1, nI_pred], fun o p => by funext j; simp [up2, p], by simp [up2, hh, nI_1], by simp [up2, hh], by simp [up2, hh], by simp [up2], by simp [up2]⟩, rfl⟩ (by decide) (by decide)
set_option maxRecDepth 100000 in
theorem c_addPlayed (hs : isS R N s) {p : Nat} (hp : I s 4 = nI p) (hp4 : p < 40) (v : Int32) : g_Ct E l mX4_addPlayed 0 0 0 0 [.ref s, .int v] (I, J, R, D, N, ex) (g_rv (fun I' => (∀ o, o ≠ s → o ≠ s + 1 → I' o = I o) ∧ (∀ k, k < 4 → I' s k = I s k) ∧ I' s 4 = nI (p + 1) ∧ (∀ j, j ≠ p → I' (s + 1) j = I (s + 1) j) ∧ I' (s + 1) p = v) J R D N ex) := by
  refine g_Ct.of (by decide +kernel) (lb rfl) ?_
  have hsN : s < N := by have := hs.2.1; omega
  refine w_aload_n dX4_addPlayed_0 rfl ?_
  refine x_geti (ci := 4) (k := 4) dX4_addPlayed_1 hs.1 (by decide) (by decide) hsN fl_X4_29 rfl ?_
  refine w_if_lt (tgt := 36) dX4_addPlayed_4 (by decide) (fun c_4 => absurd c_4 ((by rw [hp]; exact nI_pos (by omega)))) (fun c_4 => ?_)
  refine w_aload_n dX4_addPlayed_7 rfl ?_
  refine x_geti (ci := 4) (k := 4) dX4_addPlayed_8 hs.1 (by decide) (by decide) hsN fl_X4_29 rfl ?_
  refine w_bipush (v := 40) dX4_addPlayed_11 (by decide) ?_
  refine w_icmp_ge (tgt := 36) dX4_addPlayed_13 (by decide) (fun c_13 => absurd c_13 ((by rw [hp]; exact nI_ge (a := p) (b := 40) (by omega) (by omega)))) (fun c_13 => ?_)
  refine w_aload_n dX4_addPlayed_16 rfl ?_
  refine x_getr (ci := 4) (k := 5) (a := s + 1) dX4_addPlayed_17 hs.1 (by decide) (by decide) hsN fl_X4_9 (Or.inr ⟨_, rfl⟩) hs.2.2.2 ?_
  refine w_aload_n dX4_addPlayed_20 rfl ?_
  refine x_geti (ci := 4) (k := 4) dX4_addPlayed_21 hs.1 (by decide) (by decide) hsN fl_X4_29 rfl ?_
  refine w_iload_n dX4_addPlayed_24 rfl ?_
  refine x_iast (j := p) dX4_addPlayed_25 (by rw [hs.2.2.1]) hs.2.1 hp (by rw [hs.2.2.1]; exact hp4) ?_
  refine w_aload_n dX4_addPlayed_26 rfl ?_
  refine w_dup dX4_addPlayed_27 rfl ?_
  refine x_geti (ci := 4) (k := 4) dX4_addPlayed_28 hs.1 (by decide) (by decide) hsN fl_X4_29 rfl ?_
  refine w_iconst (v := 1) dX4_addPlayed_31 (by decide) ?_
  refine w_iadd dX4_addPlayed_32 ?_
  refine x_puti (ci := 4) (k := 4) dX4_addPlayed_33 hs.1 (by decide) (by decide) hsN fl_X4_29 rfl rfl ?_
  refine w_vret dX4_addPlayed_36 rfl ⟨_, rfl, ⟨fun o p1 p2 => by funext j; simp [up2, p1, p2], fun k hk => by simp [up2, show k ≠ 4 by omega], by simp [up2, hp, nI_1], fun j hj => by simp [up2, hj], by simp [up2]⟩, rfl⟩ (by decide) (by decide)
set_option maxRecDepth 100000 in
theorem c_playedAt (hs : isS R N s) {i : Nat} (hi : i < 40) : g_Ct E l mX4_playedAt 0 0 0 0 [.ref s, .int (nI i)] (I, J, R, D, N, ex) (g_is (some (.int (I (s + 1) i))) (I, J, R, D, N, ex)) := by
  refine g_Ct.of (by decide +kernel) (lb rfl) ?_
  have hsN : s < N := by have := hs.2.1; omega
  refine w_iload_n dX4_playedAt_0 rfl ?_
  refine w_if_lt (tgt := 19) dX4_playedAt_1 (by decide) (fun c_1 => absurd c_1 ((nI_pos (by omega)))) (fun c_1 => ?_)
  refine w_iload_n dX4_playedAt_4 rfl ?_
  refine w_bipush (v := 40) dX4_playedAt_5 (by decide) ?_
  refine w_icmp_ge (tgt := 19) dX4_playedAt_7 (by decide) (fun c_7 => absurd c_7 ((nI_ge (a := i) (b := 40) (by omega) (by omega)))) (fun c_7 => ?_)
  refine w_aload_n dX4_playedAt_10 rfl ?_
  refine x_getr (ci := 4) (k := 5) (a := s + 1) dX4_playedAt_11 hs.1 (by decide) (by decide) hsN fl_X4_9 (Or.inr ⟨_, rfl⟩) hs.2.2.2 ?_
  refine w_iload_n dX4_playedAt_14 rfl ?_
  refine x_iald (j := i) dX4_playedAt_15 (by rw [hs.2.2.1]) hs.2.1 rfl (by rw [hs.2.2.1]; exact hi) ?_
  refine w_goto (tgt := 20) dX4_playedAt_16 (by decide) ?_
  refine w_iret dX4_playedAt_20 rfl rfl ⟨rfl, rfl⟩ (by decide) (by decide)
set_option maxRecDepth 100000 in
theorem c_Gm_clear (hg : isG R N g) : g_Ct E l mX0_clear 1 20 0 0 [.ref g] (I, J, R, D, N, ex) (g_rv (fun I' => (∀ o, o ≠ g → o ≠ g + 2 → I' o = I o) ∧ I' g 1 = 0 ∧ I' g 2 = 0 ∧ (∀ k, k < 5 → I' (g + 2) k = 0)) J R D N ex) := by
  refine g_Ct.of (by decide +kernel) (lb rfl) ?_
  have hgN : g < N := by have := hg.2.1; omega
  refine w_aload_n dX0_clear_0 rfl ?_
  refine w_iconst (v := 0) dX0_clear_1 (by decide) ?_
  refine x_puti (ci := 0) (k := 1) dX0_clear_2 hg.1 (by decide) (by decide) hgN fl_X0_25 rfl rfl ?_
  refine w_aload_n dX0_clear_5 rfl ?_
  refine w_iconst (v := 0) dX0_clear_6 (by decide) ?_
  refine x_puti (ci := 0) (k := 2) dX0_clear_7 hg.1 (by decide) (by decide) hgN fl_X0_29 rfl rfl ?_
  refine w_aload_n dX0_clear_10 rfl ?_
  refine x_getr (ci := 0) (k := 3) (a := g + 2) dX0_clear_11 hg.1 (by decide) (by decide) hgN fl_X0_20 (Or.inl ⟨_, rfl⟩) hg.2.2.2.2.1 ?_
  refine u_callV dX0_clear_14 lk_X0_32 [] rfl (c_St_clear E l hg.2.2.2.2.2.1) (g_recv.obj (ci := 4) hg.2.2.2.2.2.1.1 (by decide) (show g + 2 < N by have := hg.2.1; omega)) rfl ⟨⟨by decide, by decide⟩, by decide, by decide⟩ (lb rfl) (fun I' h_14 => ?_)
  refine w_vret dX0_clear_17 rfl ⟨_, rfl, ⟨fun o p1 p2 => by rw [h_14.1 o p2]; funext j; simp [up2, p1], by rw [h_14.1 g (by omega)]; simp [up2], by rw [h_14.1 g (by omega)]; simp [up2], h_14.2⟩, rfl⟩ (by decide) (by decide)
set_option maxRecDepth 100000 in
theorem c_ruleAt (hg : isG R N g) {k : Nat} (hk : k < 6) : g_Ct E l mX0_ruleAt 1 21 0 0 [.ref g, .int (nI k)] (I, J, R, D, N, ex) (g_is (some (.ref (g + 4 + 3 * k))) (I, J, R, D, N, ex)) := by
  refine g_Ct.of (by decide +kernel) (lb rfl) ?_
  have hgN : g < N := by have := hg.2.1; omega
  refine w_aload_n dX0_ruleAt_0 rfl ?_
  refine x_getr (ci := 0) (k := 0) (a := g + 1) dX0_ruleAt_1 hg.1 (by decide) (by decide) hgN fl_X0_11 (Or.inr ⟨_, rfl⟩) hg.2.2.2.1 ?_
  refine w_iconst (v := 0) dX0_ruleAt_4 (by decide) ?_
  refine w_iload_n dX0_ruleAt_5 rfl ?_
  refine w_iconst (v := 5) dX0_ruleAt_6 (by decide) ?_
  refine w_mmin dX0_ruleAt_7 lk_X0_35.2.2.1 (by decide) (lb rfl) (by decide) (by decide) ?_
  rw [show (if (5 : Int32) < nI k then 5 else nI k) = nI k from mm_min (n := 5) (by omega) (by omega)]
  refine w_mmax dX0_ruleAt_10 lk_X0_41.2.2.1 (by decide) (lb rfl) (by decide) (by decide) ?_
  rw [mm_max0 (by omega)]
  refine x_aald13 (j := k) dX0_ruleAt_13 (by rw [hg.2.2.1]) (by have := hg.2.1; omega) rfl (by rw [hg.2.2.1]; exact hk) (hg.2.2.2.2.2.2 k hk).1 ?_
  refine w_aret dX0_ruleAt_14 rfl (Or.inl ⟨_, rfl⟩) ⟨rfl, rfl⟩ (by decide) (by decide)
set_option maxRecDepth 100000 in
theorem c_ruleOfHeap (hg : isG R N g) {h k : Nat} (hh : s_bits (I (g + 2) 1) (nI h) = nI k) (hk : k < 6) : g_Ct E l mX0_ruleOfHeap 2 42 0 0 [.ref g, .int (nI h)] (I, J, R, D, N, ex) (g_is (some (.ref (g + 4 + 3 * k))) (I, J, R, D, N, ex)) := by
  refine g_Ct.of (by decide +kernel) (lb rfl) ?_
  have hgN : g < N := by have := hg.2.1; omega
  refine w_aload_n dX0_ruleOfHeap_0 rfl ?_
  refine w_aload_n dX0_ruleOfHeap_1 rfl ?_
  refine x_getr (ci := 0) (k := 3) (a := g + 2) dX0_ruleOfHeap_2 hg.1 (by decide) (by decide) hgN fl_X0_20 (Or.inl ⟨_, rfl⟩) hg.2.2.2.2.1 ?_
  refine x_geti (ci := 4) (k := 1) dX0_ruleOfHeap_5 hg.2.2.2.2.2.1.1 (by decide) (by decide) (by have := hg.2.1; omega) fl_X0_44 rfl ?_
  refine w_iload_n dX0_ruleOfHeap_8 rfl ?_
  refine y_callSN dX0_ruleOfHeap_9 lk_X0_47 [.int (I (g + 2) 1), .int (nI h)] rfl (c_bitsOf E l _ _ _) rfl ⟨⟨by decide, by decide⟩, by decide, by decide⟩ (lb rfl) ?_
  rw [hh]
  refine y_callV dX0_ruleOfHeap_12 lk_X0_50 [.int (nI k)] rfl (c_ruleAt E l hg hk) (g_recv.obj (ci := 0) hg.1 (by decide) hgN) rfl ⟨⟨by decide, by decide⟩, by decide, by decide⟩ (lb rfl) ?_
  refine w_aret dX0_ruleOfHeap_15 rfl (Or.inl ⟨_, rfl⟩) ⟨rfl, rfl⟩ (by decide) (by decide)
set_option maxRecDepth 100000 in
theorem c_Gm_fillValues (hg : isG R N g) {n : Nat} (hn : I g 1 = nI n) (hn6 : n ≤ 6) {kk : Nat → Nat} (hkk : ∀ k, k < n → I (g + 4 + 3 * k) 1 = nI (kk k) ∧ kk k ≤ 4) : g_Ct E l mX0_fillValues 3 65 0 0 [.ref g] (I, J, R, D, N, ex) (g_rv (fun I' => (∀ k, k < n → ∀ m, m < 301 → I' (g + 5 + 3 * k) m = nI (gv (kk k) (clS (J (g + 4 + 3 * k) 2)) m)) ∧ ∀ o, (∀ k, k < 6 → o ≠ g + 5 + 3 * k ∧ o ≠ g + 6 + 3 * k) → ∀ j, I' o j = I o j) J R D N ex) := by
  refine g_Ct.of (by decide +kernel) (lb rfl) ?_
  have hgN : g < N := by have := hg.2.1; omega
  have loop : ∀ (f a : Nat) (I' : Nat → Nat → Int32), a + f = n → (∀ k, k < a → ∀ m, m < 301 → I' (g + 5 + 3 * k) m = nI (gv (kk k) (clS (J (g + 4 + 3 * k) 2)) m)) → (∀ o, (∀ k, k < 6 → o ≠ g + 5 + 3 * k ∧ o ≠ g + 6 + 3 * k) → ∀ j, I' o j = I o j) → g_Wp E l mX0_fillValues { frames := 3, cells := 0, slots := 0, locals := 65 } (g_Fin E (g_rv (fun I' => (∀ k, k < n → ∀ m, m < 301 → I' (g + 5 + 3 * k) m = nI (gv (kk k) (clS (J (g + 4 + 3 * k) 2)) m)) ∧ ∀ o, (∀ k, k < 6 → o ≠ g + 5 + 3 * k ∧ o ≠ g + 6 + 3 * k) → ∀ j, I' o j = I o j) J R D N ex) 0 0) 0 0 2 [(1, .int (nI a)), (0, .ref g)] [] (I', J, R, D, N, ex) := by
    intro f
    induction f with
    | zero =>
      intro a I' ha h1 h2
      obtain rfl : a = n := by omega
      have hn' : I' g 1 = nI a := by rw [h2 g (fun k hk => by omega)]; exact hn
      refine w_iload_n dX0_fillValues_2 rfl ?_
      refine w_aload_n dX0_fillValues_3 rfl ?_
      refine x_geti (ci := 0) (k := 1) dX0_fillValues_4 hg.1 (by decide) (by decide) hgN fl_X0_25 rfl ?_
      refine w_icmp_ge (tgt := 24) dX0_fillValues_7 (by decide) (fun c_7 => ?_) (fun c_7 => absurd ((by rw [hn']; exact nI_le (by omega) (by omega))) c_7)
      refine w_vret dX0_fillValues_24 rfl ⟨_, rfl, ⟨h1, h2⟩, rfl⟩ (by decide) (by decide)
    | succ f ih =>
      intro a I' ha h1 h2
      have hn' : I' g 1 = nI n := by rw [h2 g (fun k hk => by omega)]; exact hn
      have hka : I' (g + 4 + 3 * a) 1 = nI (kk a) := by rw [h2 _ (fun k hk => by omega)]; exact (hkk a (by omega)).1
      have hra := (hg.2.2.2.2.2.2 a (by omega)).2
      refine w_iload_n dX0_fillValues_2 rfl ?_
      refine w_aload_n dX0_fillValues_3 rfl ?_
      refine x_geti (ci := 0) (k := 1) dX0_fillValues_4 hg.1 (by decide) (by decide) hgN fl_X0_25 rfl ?_
      refine w_icmp_ge (tgt := 24) dX0_fillValues_7 (by decide) (fun c_7 => absurd c_7 ((by rw [hn']; exact nI_ge (by omega) (by omega)))) (fun c_7 => ?_)
      refine w_aload_n dX0_fillValues_10 rfl ?_
      refine w_iload_n dX0_fillValues_11 rfl ?_
      refine y_callV dX0_fillValues_12 lk_X0_50 [.int (nI a)] rfl (c_ruleAt E l hg (k := a) (by omega)) (g_recv.obj (ci := 0) hg.1 (by decide) hgN) rfl ⟨⟨by decide, by decide⟩, by decide, by decide⟩ (lb rfl) ?_
      refine u_callV dX0_fillValues_15 lk_X0_64 [] rfl (c_fillValues E l hra hka (hkk a (by omega)).2) (g_recv.obj (ci := 2) hra.1 (by decide) (show g + 4 + 3 * a < N by have := hra.2.1; omega)) rfl ⟨⟨by decide, by decide⟩, by decide, by decide⟩ (lb rfl) (fun I2 h_15 => ?_)
      refine w_iinc (v := nI (a + 1)) dX0_fillValues_18 rfl (nI_inc _) (by decide) rfl ?_
      refine w_goto (tgt := 2) dX0_fillValues_21 (by decide) ?_
      obtain ⟨q1, q2⟩ := h_15
      refine w_lv [1, 0] (ih (a + 1) _ (by omega) (fun k hk m hm => ?_) (fun o ho j => ?_))
      · rcases Nat.lt_or_ge k a with z | z
        · rw [q2 _ (by omega) (by omega)]; exact h1 k z m hm
        · obtain rfl : k = a := by omega
          rw [show g + 5 + 3 * k = g + 4 + 3 * k + 1 by omega]
          exact q1 m hm
      · rw [q2 o (by have := (ho a (by omega)).1; omega) (by have := (ho a (by omega)).2; omega)]; exact h2 o ho j
  refine w_iconst (v := 0) dX0_fillValues_0 (by decide) ?_
  refine w_istore_n dX0_fillValues_1 (by decide) rfl ?_
  exact loop n 0 I (by omega) (fun k hk => by omega) (fun o _ j => rfl)
end SG
