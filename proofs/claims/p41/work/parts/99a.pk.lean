/-! the law's picks; the StringBuilder as a list of letters -/
theorem w_wid {E : GE} {l : Launch} {μ : GM} {R : Room} {Φ : List Frame → Array Value → State → State → Prop} {uc us pc uc' us' : Nat} {ls : List (Nat × Value)} {st : List Value} {w : GW} (h1 : uc ≤ uc') (h2 : us ≤ us') (k : g_Wp E l μ R Φ uc' us' pc ls st w) : g_Wp E l μ R Φ uc us pc ls st w :=
  fun p e s m args below meth c H locs lsA C hR hS hl => W.widen h1 h2 (k p e s m args below meth c H locs lsA C hR hS hl)
theorem i_nat (x : Int32) : x = nI x.toBitVec.toNat := by
  show x = Int32.ofBitVec (BitVec.ofNat 32 x.toBitVec.toNat)
  rw [BitVec.ofNat_toNat, BitVec.setWidth_eq]
  rfl
theorem and_le (c : Int32) : (c &&& 65535).toBitVec.toNat ≤ 65535 := by
  have e : (c &&& 65535).toBitVec = c.toBitVec &&& 65535#32 := rfl
  rw [e, BitVec.toNat_and]
  exact Nat.and_le_right
def clV (E : GE) (k : Nat) : Int32 := if E.2.2.2.2.1 = 0 then 0 else E.2.2.2.2.2 (k % E.2.2.2.2.1) ^^^ 40503 * nI (k / E.2.2.2.2.1)
def pkV (E : GE) (k n : Nat) : Nat := (clV E k &&& 65535).toBitVec.toNat % n
theorem pkV_lt (E : GE) (k : Nat) {n : Nat} (hn : 0 < n) : pkV E k n < n := Nat.mod_lt _ hn
section PK
variable (E : GE) (l : Launch) (w : GW)
set_option maxRecDepth 100000 in
theorem c_L_cell (hL : E.2.2.2.2.1 ≤ 260) {k : Nat} (hk : k < 1000) : g_Ct E l mL_cell 0 0 0 0 [.ref 1000, .int (nI k)] w (g_is (some (.int (clV E k))) w) := by
  refine g_Ct.of (by decide +kernel) (lb rfl) ?_
  by_cases h0 : E.2.2.2.2.1 = 0
  · refine w_aload_n dL_cell_0 rfl ?_
    refine w_slen dL_cell_1 ?_
    refine w_if_ne (tgt := 9) dL_cell_2 (by decide) (fun c_2 => absurd ((by rw [h0]; rfl)) c_2) (fun c_2 => ?_)
    refine w_iconst (v := 0) dL_cell_5 (by decide) ?_
    refine w_goto (tgt := 23) dL_cell_6 (by decide) ?_
    refine w_iret dL_cell_23 rfl rfl ⟨rt_i (by unfold clV; rw [if_pos h0]), rfl⟩ (by decide) (by decide)
  · have hn0 : ¬ nI E.2.2.2.2.1 = 0 := fun q => h0 (n_eq (b := 0) q)
    have hm : k % E.2.2.2.2.1 < E.2.2.2.2.1 := Nat.mod_lt _ (by omega)
    refine w_aload_n dL_cell_0 rfl ?_
    refine w_slen dL_cell_1 ?_
    refine w_if_ne (tgt := 9) dL_cell_2 (by decide) (fun c_2 => ?_) (fun c_2 => absurd c_2 (hn0))
    refine w_aload_n dL_cell_9 rfl ?_
    refine w_iload_n dL_cell_10 rfl ?_
    refine w_aload_n dL_cell_11 rfl ?_
    refine w_slen dL_cell_12 ?_
    refine w_irem dL_cell_13 hn0 ?_
    rw [pk_rem (by omega) (by omega) (by omega)]
    refine w_sld (j := k % E.2.2.2.2.1) dL_cell_14 rfl hm (by omega) ?_
    refine w_ldc dL_cell_15 kc_L_7 ?_
    refine w_iload_n dL_cell_17 rfl ?_
    refine w_aload_n dL_cell_18 rfl ?_
    refine w_slen dL_cell_19 ?_
    refine w_idiv dL_cell_20 hn0 ?_
    rw [pk_div (by omega) (by omega) (by omega)]
    refine w_imul dL_cell_21 ?_
    refine w_ixor dL_cell_22 ?_
    refine w_iret dL_cell_23 rfl rfl ⟨rt_i (by unfold clV; rw [if_neg h0]), rfl⟩ (by decide) (by decide)
set_option maxRecDepth 100000 in
theorem c_L_pick (hL : E.2.2.2.2.1 ≤ 260) {k n : Nat} (hk : k < 1000) (hn : 0 < n) (hn2 : n < 100) : g_Ct E l mL_pick 1 21 0 0 [.ref 1000, .int (nI k), .int (nI n)] w (g_is (some (.int (nI (pkV E k n)))) w) := by
  refine g_Ct.of (by decide +kernel) (lb rfl) ?_
  have hn0 : ¬ nI n = 0 := fun q => absurd (n_eq (b := 0) q) (by omega)
  have ha := and_le (clV E k)
  have he := i_nat (clV E k &&& 65535)
  have hr : (clV E k &&& 65535) - (clV E k &&& 65535) / nI n * nI n = nI (pkV E k n) := by
    unfold pkV
    generalize (clV E k &&& 65535).toBitVec.toNat = z at ha he
    rw [he]
    exact pk_rem (by omega) hn (by omega)
  refine w_aload_n dL_pick_0 rfl ?_
  refine w_iload_n dL_pick_1 rfl ?_
  refine y_callS dL_pick_2 lk_L_8 [.ref 1000, .int (nI k)] rfl (c_L_cell E l _ hL hk) rfl ⟨⟨by decide, by decide⟩, by decide, by decide⟩ (lb rfl) ?_
  refine w_ldc dL_pick_5 kc_L_14 ?_
  refine w_iand dL_pick_7 ?_
  refine w_iload_n dL_pick_8 rfl ?_
  refine w_irem dL_pick_9 hn0 ?_
  refine w_iret dL_pick_10 rfl rfl ⟨rt_i hr, rfl⟩ (by decide) (by decide)
end PK
/-- the StringBuilder holds these letters -/
def sbL (I : Nat → Nat → Int32) (J : Nat → Nat → Int64) (R : Nat → Nat → Option Nat) (D : Nat → Nat → UInt64) (T : List Nat) (k : Nat) : Prop := sbW I J R D (fun i => T.getD i 0) T.length k
theorem sbW.cong {I : Nat → Nat → Int32} {J : Nat → Nat → Int64} {R : Nat → Nat → Option Nat} {D : Nat → Nat → UInt64} {t t' : Nat → Nat} {n k : Nat} (h : sbW I J R D t n k) (e : ∀ i, i < n → t i = t' i) : sbW I J R D t' n k :=
  ⟨⟨h.1.1, h.1.2.1, h.1.2.2.1, h.1.2.2.2.1, h.1.2.2.2.2.1, fun i hi => by rw [← e i hi]; exact h.1.2.2.2.2.2.1 i hi, h.1.2.2.2.2.2.2⟩, h.2⟩
theorem sbL.of {I : Nat → Nat → Int32} {J : Nat → Nat → Int64} {R : Nat → Nat → Option Nat} {D : Nat → Nat → UInt64} {T W : List Nat} {s : Nat → Nat} {m k : Nat} (h : sbW I J R D (sb_cat (fun i => T.getD i 0) T.length s) (T.length + m) k) (hm : m = W.length) (hs : ∀ j, j < m → s j = W.getD j 0) : sbL I J R D (T ++ W) k := by
  unfold sbL
  rw [List.length_append, ← hm]
  refine h.cong (fun i hi => ?_)
  rcases Nat.lt_or_ge i T.length with q | q
  · rw [sb_cat_lo q, List.getD_eq_getElem?_getD, List.getD_eq_getElem?_getD, List.getElem?_append_left q]
  · have e2 := sb_cat_hi (t := fun i => T.getD i 0) (s := s) (n := T.length) (j := i - T.length)
    rw [show T.length + (i - T.length) = i by omega] at e2
    rw [e2, hs _ (by omega), List.getD_eq_getElem?_getD, List.getD_eq_getElem?_getD, List.getElem?_append_right q]
def sbY (r : Option Value) (J : Nat → Nat → Int64) (D : Nat → Nat → UInt64) (I : Nat → Nat → Int32) (R : Nat → Nat → Option Nat) (T : List Nat) : GZ := fun o w => ∃ I' R' k', o = .inr r ∧ w = (I', J, R', D, 82 + k', true) ∧ sbL I' J R' D T k' ∧ sbF I I' R R'
theorem dgl_N (v : Nat) : dgN v = (dgl v).length := by unfold dgN dgl; split <;> rfl
theorem dgl_L (v j : Nat) (h : j < dgN v) : dgL v j = (dgl v).getD j 0 := by
  unfold dgN at h
  unfold dgL dgl
  split
  · rename_i q
    rw [if_pos q] at h
    obtain rfl : j = 0 := by omega
    rfl
  · rename_i q
    rw [if_neg q] at h
    rcases (show j = 0 ∨ j = 1 by omega) with rfl | rfl
    · rfl
    · rfl
theorem wl_N : ∀ i, i < 21 → wl i = (g_wn.getD i []).length := by decide +kernel
theorem one_c (c : Nat) : ∀ j, j < 1 → (fun _ : Nat => c) j = [c].getD j 0 := by
  intro j hj
  obtain rfl : j = 0 := by omega
  rfl
section GU3
variable {E : GE} {l : Launch} {μ : GM} {Rm : Room} {Φ : List Frame → Array Value → State → State → Prop} {uc us pc : Nat} {ls : List (Nat × Value)} {st rest : List Value} {Z : GZ} {mc ms : Nat}
variable {idx : Nat} {J : Nat → Nat → Int64} {D : Nat → Nat → UInt64} {I : Nat → Nat → Int32} {R : Nat → Nat → Option Nat} {T : List Nat} {k : Nat}
/-- append of a word, a letter, a number below 100 -/
theorem a_str {i : Nat} (hd : decode μ.2.1 pc = .ok (.invokevirtual idx, 3)) (hk : g_lkV μ.1.cls idx 1 mJ4_append_15ec4) (hv : g_lvs E) (h : sbL I J R D T k) (hi : i < 21) (hn : T.length + wl i ≤ 142) (hR8 : ((5) + 1 ≤ Rm.frames ∧ 8 + (2 + 11) + (127) ≤ Rm.locals) ∧ uc + 1 ≤ Rm.cells ∧ us + 142 ≤ Rm.slots) (hr8 : (rest.map fun v => v.category).sum ≤ 8)
    (kr : ∀ I' R' k', sbL I' J R' D (T ++ g_wn.getD i []) k' → sbF I I' R R' → g_Wp E l μ Rm Φ (uc + 1) (us + 142) (pc + 3) ls (.ref 80 :: rest) (I', J, R', D, 82 + k', true)) : g_Wp E l μ Rm Φ uc us pc ls (.ref (1001 + i) :: .ref 80 :: rest) (I, J, R, D, 82 + k, true) :=
  sb_callV hd hk [.ref (1001 + i)] rfl (c_SB_appendS E l hv h hi hn) (g_recv.obj (ci := 7) rfl (by decide) (show 80 < 82 + k by omega)) rfl hR8 hr8 (fun I' R' k' h' _ f' => kr I' R' k' (sbL.of h' (wl_N i hi) (fun _ _ => rfl)) f')
theorem a_chr {c : Nat} {x : Int32} (hd : decode μ.2.1 pc = .ok (.invokevirtual idx, 3)) (hk : g_lkV μ.1.cls idx 1 mJ4_append_cf468) (hv : g_lvs E) (h : sbL I J R D T k) (hx : x = nI c) (hc : c < 128) (hn : T.length + 1 ≤ 142) (hR8 : ((5) + 1 ≤ Rm.frames ∧ 8 + (2 + 11) + (125) ≤ Rm.locals) ∧ uc + 1 ≤ Rm.cells ∧ us + 142 ≤ Rm.slots) (hr8 : (rest.map fun v => v.category).sum ≤ 8)
    (kr : ∀ I' R' k', sbL I' J R' D (T ++ [c]) k' → sbF I I' R R' → g_Wp E l μ Rm Φ (uc + 1) (us + 142) (pc + 3) ls (.ref 80 :: rest) (I', J, R', D, 82 + k', true)) : g_Wp E l μ Rm Φ uc us pc ls (.int x :: .ref 80 :: rest) (I, J, R, D, 82 + k, true) := by
  subst hx
  exact sb_callV hd hk [.int (nI c)] rfl (c_SB_appendC E l hv h hc hn) (g_recv.obj (ci := 7) rfl (by decide) (show 80 < 82 + k by omega)) rfl hR8 hr8 (fun I' R' k' h' _ f' => kr I' R' k' (sbL.of (m := 1) (s := fun _ => c) h' rfl (one_c c)) f')
theorem a_num {v : Nat} {x : Int32} (hd : decode μ.2.1 pc = .ok (.invokevirtual idx, 3)) (hk : g_lkV μ.1.cls idx 1 mJ4_append_bf812) (hv : g_lvs E) (h : sbL I J R D T k) (hx : x = nI v) (hv1 : v < 100) (hn : T.length + 2 ≤ 142) (hR8 : ((5) + 1 ≤ Rm.frames ∧ 8 + (2 + 11) + (127) ≤ Rm.locals) ∧ uc + 1 ≤ Rm.cells ∧ us + 142 ≤ Rm.slots) (hr8 : (rest.map fun v => v.category).sum ≤ 8)
    (kr : ∀ I' R' k', sbL I' J R' D (T ++ dgl v) k' → sbF I I' R R' → g_Wp E l μ Rm Φ (uc + 1) (us + 142) (pc + 3) ls (.ref 80 :: rest) (I', J, R', D, 82 + k', true)) : g_Wp E l μ Rm Φ uc us pc ls (.int x :: .ref 80 :: rest) (I, J, R, D, 82 + k, true) := by
  subst hx
  exact sb_callV hd hk [.int (nI v)] rfl (c_SB_appendI E l hv h hv1 (by have := (dgl_l v).2; rw [dgl_N]; omega)) (g_recv.obj (ci := 7) rfl (by decide) (show 80 < 82 + k by omega)) rfl hR8 hr8 (fun I' R' k' h' _ f' => kr I' R' k' (sbL.of h' (dgl_N v) (fun j hj => dgl_L v j hj)) f')
end GU3
