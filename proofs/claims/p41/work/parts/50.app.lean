/-! HeapGames.append -/
def byN (y : Int32) : Nat := y.toBitVec.toNat % 256
theorem byN_and (y : Int32) : y &&& 255 = nI (byN y) := by
  apply Int32.toBitVec_inj.mp
  apply BitVec.eq_of_toNat_eq
  show (y &&& 255).toBitVec.toNat = (BitVec.ofNat 32 (byN y)).toNat
  rw [Int32.toBitVec_and, BitVec.toNat_and, BitVec.toNat_ofNat]
  show y.toBitVec.toNat &&& (2 ^ 8 - 1) = _
  rw [Nat.and_two_pow_sub_one_eq_mod]
  unfold byN
  have := y.toBitVec.isLt
  omega
theorem byN_lt (y : Int32) : byN y < 256 := Nat.mod_lt _ (by decide)
theorem byN_8 (y : Int32) : y.toInt8.toInt32 = (nI (byN y)).toInt8.toInt32 := by
  congr 1
  apply Int8.toBitVec_inj.mp
  show y.toBitVec.signExtend 8 = (nI (byN y)).toBitVec.signExtend 8
  apply BitVec.eq_of_getLsbD_eq
  intro i hi
  rw [BitVec.getLsbD_signExtend, BitVec.getLsbD_signExtend, if_pos (show i < 32 by omega), if_pos (show i < 32 by omega)]
  congr 1
  show y.toBitVec.getLsbD i = (BitVec.ofNat 32 (byN y)).getLsbD i
  rw [BitVec.getLsbD_ofNat, decide_eq_true (show i < 32 by omega), Bool.true_and]
  show y.toBitVec.toNat.testBit i = (y.toBitVec.toNat % 2 ^ 8).testBit i
  rw [Nat.testBit_mod_two_pow, decide_eq_true hi, Bool.true_and]
theorem i8_i8 (y : Int32) : y.toInt8.toInt32.toInt8.toInt32 = y.toInt8.toInt32 := by
  have h := bp_b y
  rw [byN_and, byN_and] at h
  rw [byN_8 y.toInt8.toInt32, h, ← byN_8 y]
def shv (m : Nat) : Int32 := Int32.ofInt (24 - 8 * (m : Int))
theorem shv_s : ∀ m, m < 4 → shv m + Int32.ofInt (-8) = shv (m + 1) := by decide
theorem shv_p : ∀ m, m < 4 → ¬ shv m < 0 := by decide
def byW (a : Int32) (m : Nat) : Int32 := a >>> (shv m &&& 31)
def putT (tx : Nat → Nat) (i v : Nat) : Nat → Nat := fun x => if x = i then v else tx x
def addT (tx : Nat → Nat) (tl : Nat) (a : Int32) : Nat → Nat → Nat
  | 0 => tx
  | m + 1 => putT (addT tx tl a m) (tl + m) (byN (byW a m))
def frT (I I' : Nat → Nat → Int32) : Prop := (∀ o, o ≠ 23 → o ≠ 24 → I' o = I o) ∧ ∀ k, k ≠ 1 → I' 23 k = I 23 k
theorem frT.refl (I : Nat → Nat → Int32) : frT I I := ⟨fun _ _ _ => rfl, fun _ _ => rfl⟩
theorem frT.trans {I I' I'' : Nat → Nat → Int32} (h : frT I I') (h' : frT I' I'') : frT I I'' := ⟨fun o a b => (h'.1 o a b).trans (h.1 o a b), fun k a => (h'.2 k a).trans (h.2 k a)⟩
theorem txC.add {I I' : Nat → Nat → Int32} {tx : Nat → Nat} {tl : Nat} (h : txC I tx tl) (ht : tl < 400) (y : Int32) (h1 : I' 23 1 = nI (tl + 1)) (h2 : I' 24 tl = y.toInt8.toInt32) (h3 : ∀ i, i ≠ tl → I' 24 i = I 24 i) : txC I' (putT tx tl (byN y)) (tl + 1) := by
  refine ⟨h1, by omega, fun i hi => ?_⟩
  unfold putT
  split
  · rename_i e
    subst e
    exact ⟨byN_lt y, by rw [h2]; exact byN_8 y⟩
  · rename_i e
    rw [h3 i e]
    exact h.2.2 i (by omega)
section FQ9
variable (E : GE) (l : Launch)
variable {I : Nat → Nat → Int32} {J : Nat → Nat → Int64} {R : Nat → Nat → Option Nat} {D : Nat → Nat → UInt64} {N : Nat} {ex : Bool} {sw : Bool} {A : AS} {n s : Nat}
set_option maxRecDepth 100000 in
theorem c_addBytes (hR : R 23 0 = some 24) (hN : 24 < N) {tx : Nat → Nat} {tl : Nat} (ht : txC I tx tl) (h4 : tl + 4 ≤ 400) (a : Int32) : g_Ct E l mX5_addBytes 0 0 0 0 [.ref 23, .int a] (I, J, R, D, N, ex) (g_rv (fun I' => frT I I' ∧ txC I' (addT tx tl a 4) (tl + 4)) J R D N ex) := by
  refine g_Ct.of (by decide +kernel) (lb rfl) ?_
  have loop : ∀ (f m : Nat) (I' : Nat → Nat → Int32), m + f = 4 → frT I I' → txC I' (addT tx tl a m) (tl + m) → g_Wp E l mX5_addBytes { frames := 0, cells := 0, slots := 0, locals := 0 } (g_Fin E (g_rv (fun I' => frT I I' ∧ txC I' (addT tx tl a 4) (tl + 4)) J R D N ex) 0 0) 0 0 3 [(2, .int (shv m)), (0, .ref 23), (1, .int a)] [] (I', J, R, D, N, ex) := by
    intro f
    induction f with
    | zero =>
      intro m I' hm h1 h2
      obtain rfl : m = 4 := by omega
      refine w_iload_n dX5_addBytes_3 rfl ?_
      refine w_if_lt (tgt := 48) dX5_addBytes_4 (by decide) (fun c_4 => ?_) (fun c_4 => absurd ((by decide)) c_4)
      refine w_vret dX5_addBytes_48 rfl ⟨_, rfl, ⟨h1, h2⟩, rfl⟩ (by decide) (by decide)
    | succ f ih =>
      intro m I' hm h1 h2
      refine w_iload_n dX5_addBytes_3 rfl ?_
      refine w_if_lt (tgt := 48) dX5_addBytes_4 (by decide) (fun c_4 => absurd c_4 ((shv_p m (by omega)))) (fun c_4 => ?_)
      refine w_aload_n dX5_addBytes_7 rfl ?_
      refine x_geti (ci := 5) (k := 1) dX5_addBytes_8 rfl (by decide) (by decide) (by omega) fl_X5_15 rfl ?_
      rw [h2.1]
      refine w_aload_n dX5_addBytes_11 rfl ?_
      refine x_getr (ci := 5) (k := 0) (a := 24) dX5_addBytes_12 rfl (by decide) (by decide) (by omega) fl_X5_9 (Or.inr ⟨_, rfl⟩) hR ?_
      refine x_alen (c := 11) (L := 400) dX5_addBytes_15 rfl (by decide) (by decide) hN ?_
      refine w_icmp_ge (tgt := 48) dX5_addBytes_16 (by decide) (fun c_16 => absurd c_16 ((nI_ge (a := tl + m) (b := 400) (by omega) (by omega)))) (fun c_16 => ?_)
      refine w_aload_n dX5_addBytes_19 rfl ?_
      refine x_getr (ci := 5) (k := 0) (a := 24) dX5_addBytes_20 rfl (by decide) (by decide) (by omega) fl_X5_9 (Or.inr ⟨_, rfl⟩) hR ?_
      refine w_aload_n dX5_addBytes_23 rfl ?_
      refine x_geti (ci := 5) (k := 1) dX5_addBytes_24 rfl (by decide) (by decide) (by omega) fl_X5_15 rfl ?_
      rw [h2.1]
      refine w_iload_n dX5_addBytes_27 rfl ?_
      refine w_iload_n dX5_addBytes_28 rfl ?_
      refine w_ishr dX5_addBytes_29 ?_
      refine w_i2b dX5_addBytes_30 ?_
      refine x_bast (j := tl + m) dX5_addBytes_31 rfl hN rfl (show tl + m < 400 by omega) ?_
      rw [i8_i8]
      refine w_aload_n dX5_addBytes_32 rfl ?_
      refine w_dup dX5_addBytes_33 rfl ?_
      refine x_geti (ci := 5) (k := 1) dX5_addBytes_34 rfl (by decide) (by decide) (by omega) fl_X5_15 rfl ?_
      refine w_st (show _ = [.int (nI (tl + m)), .ref 23] from by rw [up2_n _ _ (by simp), h2.1]) ?_
      refine w_iconst (v := 1) dX5_addBytes_37 (by decide) ?_
      refine w_iadd dX5_addBytes_38 ?_
      rw [nI_1]
      refine x_puti (ci := 5) (k := 1) dX5_addBytes_39 rfl (by decide) (by decide) (by omega) fl_X5_15 rfl rfl ?_
      refine w_iinc (v := shv (m + 1)) dX5_addBytes_42 rfl (shv_s m (by omega)) (by decide) rfl ?_
      refine w_goto (tgt := 3) dX5_addBytes_45 (by decide) ?_
      refine w_lv [2, 0, 1] (ih (m + 1) _ (by omega) (h1.trans ⟨fun o p q => by funext j; rw [up2_n _ _ (by simp [p]), up2_n _ _ (by simp [q])], fun k hk => by rw [up2_n _ _ (by simp [hk]), up2_n _ _ (by simp)]⟩) ?_)
      exact h2.add (by omega) (byW a m) (up2_s ..) (by rw [up2_n _ _ (by simp), up2_s]; rfl) (fun i hi => by rw [up2_n _ _ (by simp), up2_n _ _ (by simp [hi])])
  refine w_bipush (v := 24) dX5_addBytes_0 (by decide) ?_
  refine w_istore_n dX5_addBytes_2 (by decide) rfl ?_
  refine w_lv [2, 0, 1] (loop 4 0 I (by omega) (frT.refl I) ht)
def appT (tx : Nat → Nat) (tl : Nat) (a b c d e : Int32) : Nat → Nat := addT (addT (addT (addT (addT tx tl a 4) (tl + 4) b 4) (tl + 8) c 4) (tl + 12) d 4) (tl + 16) e 4
set_option maxRecDepth 100000 in
theorem c_append (hl : lk R N sw) (h : rC I J sw A n) (hf : A.tl + 20 ≤ 400) (a b c d e : Int32) : g_Ct E l mX6_append 1 22 0 0 [.ref 0, .int a, .int b, .int c, .int d, .int e] (I, J, R, D, N, ex) (g_ri (fun x I' => x = nI (A.tl + 20) ∧ frM I I' ∧ rC I' J sw (A.ru, A.nr, A.st, A.hi, A.sn, appT A.tx A.tl a b c d e, A.tl + 20) n) J R D N ex) := by
  refine g_Ct.of (by decide +kernel) (lb rfl) ?_
  have hN := hl.2.2.2.2.2.2.2.2.2.2.2.2.2.2.2.2
  have hR := hl.2.2.2.2.2.2.2.2.2.2.1
  have ht := h.2.2.2.2.2.2.2.2.2.2
  refine w_aload_n dX6_append_0 rfl ?_
  refine x_getr (ci := 6) (k := 1) (a := 23) dX6_append_1 rfl (by decide) (by decide) (by omega) fl_X6_19 (Or.inl ⟨_, rfl⟩) hl.2.2.2.2.2.1 ?_
  refine x_geti (ci := 5) (k := 1) dX6_append_4 rfl (by decide) (by decide) (by omega) fl_X6_48 rfl ?_
  rw [ht.1]
  refine w_bipush (v := 20) dX6_append_7 (by decide) ?_
  refine w_iadd dX6_append_9 ?_
  refine w_st (show _ = [.int (nI (A.tl + 20))] from by rw [← nI_add]; rfl) ?_
  refine w_sipush (v := 400) dX6_append_10 (by decide) ?_
  refine w_icmp_le (tgt := 18) dX6_append_13 (by decide) (fun c_13 => ?_) (fun c_13 => absurd ((nI_le (a := A.tl + 20) (b := 400) (by omega) (by omega))) c_13)
  refine w_aload_n dX6_append_18 rfl ?_
  refine x_getr (ci := 6) (k := 1) (a := 23) dX6_append_19 rfl (by decide) (by decide) (by omega) fl_X6_19 (Or.inl ⟨_, rfl⟩) hl.2.2.2.2.2.1 ?_
  refine w_iload_n dX6_append_22 rfl ?_
  refine u_callV dX6_append_23 lk_X6_52 [.int a] rfl (c_addBytes E l hR (by omega) ht (by omega) a) (g_recv.obj (ci := 5) rfl (by decide) (show 23 < N by omega)) rfl ⟨⟨by decide, by decide⟩, by decide, by decide⟩ (lb rfl) (fun I1 h_23 => ?_)
  obtain ⟨f1, t1⟩ := h_23
  refine w_aload_n dX6_append_26 rfl ?_
  refine x_getr (ci := 6) (k := 1) (a := 23) dX6_append_27 rfl (by decide) (by decide) (by omega) fl_X6_19 (Or.inl ⟨_, rfl⟩) hl.2.2.2.2.2.1 ?_
  refine w_iload_n dX6_append_30 rfl ?_
  refine u_callV dX6_append_31 lk_X6_52 [.int b] rfl (c_addBytes E l hR (by omega) t1 (by omega) b) (g_recv.obj (ci := 5) rfl (by decide) (show 23 < N by omega)) rfl ⟨⟨by decide, by decide⟩, by decide, by decide⟩ (lb rfl) (fun I2 h_31 => ?_)
  obtain ⟨f2, t2⟩ := h_31
  refine w_aload_n dX6_append_34 rfl ?_
  refine x_getr (ci := 6) (k := 1) (a := 23) dX6_append_35 rfl (by decide) (by decide) (by omega) fl_X6_19 (Or.inl ⟨_, rfl⟩) hl.2.2.2.2.2.1 ?_
  refine w_iload_n dX6_append_38 rfl ?_
  refine u_callV dX6_append_39 lk_X6_52 [.int c] rfl (c_addBytes E l hR (by omega) t2 (by omega) c) (g_recv.obj (ci := 5) rfl (by decide) (show 23 < N by omega)) rfl ⟨⟨by decide, by decide⟩, by decide, by decide⟩ (lb rfl) (fun I3 h_39 => ?_)
  obtain ⟨f3, t3⟩ := h_39
  refine w_aload_n dX6_append_42 rfl ?_
  refine x_getr (ci := 6) (k := 1) (a := 23) dX6_append_43 rfl (by decide) (by decide) (by omega) fl_X6_19 (Or.inl ⟨_, rfl⟩) hl.2.2.2.2.2.1 ?_
  refine w_iload dX6_append_46 rfl ?_
  refine u_callV dX6_append_48 lk_X6_52 [.int d] rfl (c_addBytes E l hR (by omega) t3 (by omega) d) (g_recv.obj (ci := 5) rfl (by decide) (show 23 < N by omega)) rfl ⟨⟨by decide, by decide⟩, by decide, by decide⟩ (lb rfl) (fun I4 h_48 => ?_)
  obtain ⟨f4, t4⟩ := h_48
  refine w_aload_n dX6_append_51 rfl ?_
  refine x_getr (ci := 6) (k := 1) (a := 23) dX6_append_52 rfl (by decide) (by decide) (by omega) fl_X6_19 (Or.inl ⟨_, rfl⟩) hl.2.2.2.2.2.1 ?_
  refine w_iload dX6_append_55 rfl ?_
  refine u_callV dX6_append_57 lk_X6_52 [.int e] rfl (c_addBytes E l hR (by omega) t4 (by omega) e) (g_recv.obj (ci := 5) rfl (by decide) (show 23 < N by omega)) rfl ⟨⟨by decide, by decide⟩, by decide, by decide⟩ (lb rfl) (fun I5 h_57 => ?_)
  obtain ⟨f5, t5⟩ := h_57
  refine w_aload_n dX6_append_60 rfl ?_
  refine x_getr (ci := 6) (k := 1) (a := 23) dX6_append_61 rfl (by decide) (by decide) (by omega) fl_X6_19 (Or.inl ⟨_, rfl⟩) hl.2.2.2.2.2.1 ?_
  refine x_geti (ci := 5) (k := 1) dX6_append_64 rfl (by decide) (by decide) (by omega) fl_X6_48 rfl ?_
  refine w_iret dX6_append_67 rfl rfl ⟨_, _, rfl, ⟨t5.1, fun o ho => ((((f1.trans f2).trans f3).trans f4).trans f5).1 o (by omega) (by omega), h.txt ((((f1.trans f2).trans f3).trans f4).trans f5).1 t5⟩, rfl⟩ (by decide) (by decide)
set_option maxRecDepth 100000 in
theorem c_append_no (hl : lk R N sw) (h : rC I J sw A n) (hf : ¬ A.tl + 20 ≤ 400) (a b c d e : Int32) : g_Ct E l mX6_append 1 22 0 0 [.ref 0, .int a, .int b, .int c, .int d, .int e] (I, J, R, D, N, ex) (g_is (some (.int (-1))) (I, J, R, D, N, ex)) := by
  refine g_Ct.of (by decide +kernel) (lb rfl) ?_
  have hN := hl.2.2.2.2.2.2.2.2.2.2.2.2.2.2.2.2
  have ht := h.2.2.2.2.2.2.2.2.2.2
  have h4 := ht.2.1
  refine w_aload_n dX6_append_0 rfl ?_
  refine x_getr (ci := 6) (k := 1) (a := 23) dX6_append_1 rfl (by decide) (by decide) (by omega) fl_X6_19 (Or.inl ⟨_, rfl⟩) hl.2.2.2.2.2.1 ?_
  refine x_geti (ci := 5) (k := 1) dX6_append_4 rfl (by decide) (by decide) (by omega) fl_X6_48 rfl ?_
  rw [ht.1]
  refine w_bipush (v := 20) dX6_append_7 (by decide) ?_
  refine w_iadd dX6_append_9 ?_
  refine w_st (show _ = [.int (nI (A.tl + 20))] from by rw [← nI_add]; rfl) ?_
  refine w_sipush (v := 400) dX6_append_10 (by decide) ?_
  refine w_icmp_le (tgt := 18) dX6_append_13 (by decide) (fun c_13 => absurd c_13 ((fun q => absurd (n_le (a := A.tl + 20) (b := 400) q) hf))) (fun c_13 => ?_)
  refine w_iconst (v := (-1)) dX6_append_16 (by decide) ?_
  refine w_iret dX6_append_17 rfl rfl ⟨rfl, rfl⟩ (by decide) (by decide)
end FQ9
