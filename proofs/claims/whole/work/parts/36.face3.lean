/-! a quotient of two whole numbers is a number; HeapGames, on: zeros, heapWith -/
section FQ
theorem settle_num (f : Jvm.FP.Core.Fmt) (s : Bool) (c : Nat) (q : Int) : Jvm.FP.Core.settle f s c q ≠ .nan := by
  unfold Jvm.FP.Core.settle Jvm.FP.Core.bound
  repeat' split
  all_goals (intro h; cases h)
theorem ratio_num (f : Jvm.FP.Core.Fmt) (s : Bool) (a b : Nat) (e : Int) : Jvm.FP.Core.roundRatio f s a b e ≠ .nan := by
  unfold Jvm.FP.Core.roundRatio
  split
  · intro h; cases h
  · exact settle_num _ _ _ _
theorem ddiv_num {a b : Int32} (hb : b.toInt ≠ 0) : Jvm.FP.Core.val64 (Jvm.FP.ddiv (Jvm.FP.i2d a) (Jvm.FP.i2d b)) ≠ .nan := by
  show Jvm.FP.Core.val64 (Jvm.FP.Core.ddiv (Jvm.FP.Core.i2d a) (Jvm.FP.Core.i2d b)) ≠ .nan
  rw [Jvm.FP.Core.val64_ddiv]
  have h1 : Jvm.FP.Core.Whole a.toInt (Jvm.FP.Core.val64 (Jvm.FP.Core.i2d a)) := Jvm.FP.Core.i2d_int a
  have h2 : Jvm.FP.Core.Whole b.toInt (Jvm.FP.Core.val64 (Jvm.FP.Core.i2d b)) := Jvm.FP.Core.i2d_int b
  cases e1 : Jvm.FP.Core.val64 (Jvm.FP.Core.i2d a) with
  | nan => rw [e1] at h1; exact h1.elim
  | inf s => rw [e1] at h1; exact h1.elim
  | fin s c q =>
    cases e2 : Jvm.FP.Core.val64 (Jvm.FP.Core.i2d b) with
    | nan => rw [e2] at h2; exact h2.elim
    | inf s => rw [e2] at h2; exact h2.elim
    | fin t d r =>
      rw [e2] at h2
      have h2' : Jvm.FP.Core.signed t (d * 2 ^ r.toNat) = b.toInt * ((2 ^ (-r).toNat : Nat) : Int) := h2
      show (if d = 0 then (if c = 0 then Jvm.FP.Core.Datum.nan else .inf (s != t)) else Jvm.FP.Core.roundRatio Jvm.FP.Core.b64 (s != t) c d (q - r)) ≠ .nan
      split
      · rename_i hd
        subst hd
        exfalso
        rw [Nat.zero_mul] at h2'
        have h3 : Jvm.FP.Core.signed t 0 = 0 := by cases t <;> rfl
        rw [h3] at h2'
        rcases Int.mul_eq_zero.mp h2'.symm with z | z
        · exact hb z
        · have : 0 < 2 ^ (-r).toNat := Nat.two_pow_pos _
          omega
      · exact ratio_num _ _ _ _ _
theorem num_n64 {x : UInt64} (h : Jvm.FP.Core.val64 x ≠ .nan) : vf_n64 x := by
  unfold vf_n64
  rw [UInt64.le_iff_toNat_le, UInt64.toNat_and]
  show x.toNat &&& (2 ^ 63 - 1) ≤ 9218868437227405312
  rw [Nat.and_two_pow_sub_one_eq_mod]
  have hx := x.toNat_lt
  by_cases h1 : x.toNat / 4503599627370496 % 2048 = 2047
  · by_cases h2 : x.toNat % 4503599627370496 = 0
    · omega
    · exfalso
      apply h
      unfold Jvm.FP.Core.val64 Jvm.FP.Core.decode
      rw [if_pos (show Jvm.FP.Core.fieldE Jvm.FP.Core.b64 x.toNat = Jvm.FP.Core.b64.exps - 1 from h1), if_neg (show ¬ Jvm.FP.Core.fieldT Jvm.FP.Core.b64 x.toNat = 0 from h2)]
  · omega
end FQ
theorem i_pred (x : Int32) : x + Int32.ofInt (-1) = x - 1 := by rw [Int32.sub_eq_add_neg, show Int32.ofInt (-1) = -1 from by decide]
/-- the part of heaps 0 to m - 1 of value 0 -/
def zcS (ru : Ru) (k : Nat) : Nat → Nat
  | 0 => 0
  | n + 1 => zcS ru k n + if vS ru k n = 0 then 1 else 0
theorem zcS_le (ru : Ru) (k : Nat) : ∀ n, zcS ru k n ≤ n
  | 0 => Nat.le_refl _
  | n + 1 => by rw [zcS]; have := zcS_le ru k n; split <;> omega
def zrS (ru : Ru) (k m : Nat) : UInt64 := Jvm.FP.ddiv (Jvm.FP.i2d (nI (zcS ru k (m + 1)))) (Jvm.FP.i2d (nI (m + 1)))
theorem zr_ne {m : Nat} (hm : m < 301) : (nI (m + 1)).toInt ≠ 0 := by rw [nI_toInt (by omega)]; omega
section FC
variable (E : GE) (l : Launch)
variable {I : Nat → Nat → Int32} {J : Nat → Nat → Int64} {R : Nat → Nat → Option Nat} {D : Nat → Nat → UInt64} {N : Nat} {ex : Bool} {sw : Bool} {A : AS} {n : Nat}
set_option maxRecDepth 100000 in
theorem c_zeros_x1 (hl : lk R N sw) (h : rC I J sw A n) {x : Int32} (hx : x < 0 ∨ ¬ x < nI A.nr) (z : Int32) : g_Ct E l mX6_zeros 7 111 1 6 [.ref 0, .int x, .int z] (I, J, R, D, N, ex) (g_ths "java/lang/IndexOutOfBoundsException" (I, J, R, D, N, false)) := by
  refine g_Ct.of (by decide +kernel) (lb rfl) ?_
  have hN := hl.2.2.2.2.2.2.2.2.2.2.2.2.2.2.2.2
  refine w_aload_n dX6_zeros_0 rfl ?_
  refine w_iload_n dX6_zeros_1 rfl ?_
  refine t_callV dX6_zeros_2 lk_X6_124 [.int x] rfl (c_requireRule_x E l hl h hx) (g_recv.obj (ci := 6) rfl (by decide) (show 0 < N by omega)) rfl ⟨⟨by decide, by decide⟩, by decide, by decide⟩ (lb rfl) (w_out rfl ⟨rfl, rfl⟩ (by decide) (by decide))
set_option maxRecDepth 100000 in
theorem c_zeros_x2 (hl : lk R N sw) (h : rC I J sw A n) {k : Nat} (hk : k < A.nr) {z : Int32} (hz : z < 0 ∨ ¬ z < nI 301) : g_Ct E l mX6_zeros 7 111 1 6 [.ref 0, .int (nI k), .int z] (I, J, R, D, N, ex) (g_ths "java/lang/IllegalArgumentException" (I, J, R, D, N, false)) := by
  refine g_Ct.of (by decide +kernel) (lb rfl) ?_
  have hN := hl.2.2.2.2.2.2.2.2.2.2.2.2.2.2.2.2
  refine w_aload_n dX6_zeros_0 rfl ?_
  refine w_iload_n dX6_zeros_1 rfl ?_
  refine y_callV dX6_zeros_2 lk_X6_124 [.int (nI k)] rfl (c_requireRule E l hl h hk) (g_recv.obj (ci := 6) rfl (by decide) (show 0 < N by omega)) rfl ⟨⟨by decide, by decide⟩, by decide, by decide⟩ (lb rfl) ?_
  refine w_astore_n dX6_zeros_5 (by decide) rfl ?_
  refine w_iload_n dX6_zeros_6 rfl ?_
  refine t_callS dX6_zeros_7 lk_X6_133 [.int z] rfl (c_requireCounters_x E l hz) rfl ⟨⟨by decide, by decide⟩, by decide, by decide⟩ (lb rfl) (w_out rfl ⟨rfl, rfl⟩ (by decide) (by decide))
set_option maxRecDepth 100000 in
theorem c_zeros (hl : lk R N sw) (h : rC I J sw A n) {k : Nat} (hk : k < A.nr) {m : Nat} (hm : m < 301) : g_Ct E l mX6_zeros 7 111 0 0 [.ref 0, .int (nI k), .int (nI m)] (I, J, R, D, N, ex) (g_is (some (.double (zrS A.ru k m))) (I, J, R, D, N, ex)) := by
  refine g_Ct.of (by decide +kernel) (lb rfl) ?_
  have hN := hl.2.2.2.2.2.2.2.2.2.2.2.2.2.2.2.2
  have hgm := gm_b sw
  have hnr := h.1
  have hr := (hl.1.2.2.2.2.2.2 k (by omega)).2
  have hrN : gm sw + 4 + 3 * k < N := by have := hr.2.1; omega
  obtain ⟨hK, hS⟩ := h.2.2.1.2 k (by omega)
  have hK4 := (h.2.1.1 k (by omega)).1
  have hV : ∀ i, i < 301 → I (gm sw + 4 + 3 * k + 1) i = vS A.ru k i := fun i hi => by rw [show gm sw + 4 + 3 * k + 1 = gm sw + 5 + 3 * k by omega]; exact h.2.2.2.1 k hk i hi
  have loop : ∀ f a : Nat, a + f = m + 1 → g_Wp E l mX6_zeros { frames := 7, cells := 0, slots := 0, locals := 111 } (g_Fin E (g_is (some (.double (zrS A.ru k m))) (I, J, R, D, N, ex)) 0 0) 0 0 16 [(5, .int (nI a)), (4, .int (nI (zcS A.ru k a))), (2, .int (nI m)), (3, .ref (gm sw + 4 + 3 * k))] [] (I, J, R, D, N, ex) := by
    intro f
    induction f with
    | zero =>
      intro a ha
      obtain rfl : a = m + 1 := by omega
      refine w_iload dX6_zeros_16 rfl ?_
      refine w_iload_n dX6_zeros_18 rfl ?_
      refine w_icmp_gt (tgt := 40) dX6_zeros_19 (by decide) (fun c_19 => ?_) (fun c_19 => absurd ((nI_lt (by omega) (by omega))) c_19)
      refine w_iload dX6_zeros_40 rfl ?_
      refine w_i2d dX6_zeros_42 ?_
      refine w_iload_n dX6_zeros_43 rfl ?_
      refine w_iconst (v := 1) dX6_zeros_44 (by decide) ?_
      refine w_iadd dX6_zeros_45 ?_
      rw [nI_1]
      refine w_i2d dX6_zeros_46 ?_
      refine w_ddiv dX6_zeros_47 (num_n64 (ddiv_num (zr_ne hm))) ?_
      refine w_dret dX6_zeros_48 rfl ⟨rfl, rfl⟩ (by decide) (by decide)
    | succ f ih =>
      intro a ha
      have h1 := zcS_le A.ru k a
      refine w_iload dX6_zeros_16 rfl ?_
      refine w_iload_n dX6_zeros_18 rfl ?_
      refine w_icmp_gt (tgt := 40) dX6_zeros_19 (by decide) (fun c_19 => absurd c_19 ((nI_nlt (by omega) (by omega)))) (fun c_19 => ?_)
      refine w_aload_n dX6_zeros_22 rfl ?_
      refine w_iload dX6_zeros_23 rfl ?_
      refine y_callV dX6_zeros_25 lk_X6_143 [.int (nI a)] rfl (c_valueOf E l hr (by omega)) (g_recv.obj (ci := 2) hr.1 (by decide) hrN) rfl ⟨⟨by decide, by decide⟩, by decide, by decide⟩ (lb rfl) ?_
      rw [hV a (by omega)]
      refine w_if_ne (tgt := 34) dX6_zeros_28 (by decide) (fun c_28 => ?_) (fun c_28 => ?_)
      · refine w_iinc (v := nI (a + 1)) dX6_zeros_34 rfl (nI_inc _) (by decide) rfl ?_
        refine w_goto (tgt := 16) dX6_zeros_37 (by decide) ?_
        first | (have t := ih (a + 1) (by omega); rw [zcS, if_pos c_28] at t; exact w_lv [5, 4, 2, 3] t) | (have t := ih (a + 1) (by omega); rw [zcS, if_neg c_28] at t; exact w_lv [5, 4, 2, 3] t)
      · refine w_iinc (v := nI (zcS A.ru k a + 1)) dX6_zeros_31 rfl (nI_inc _) (by decide) rfl ?_
        refine w_iinc (v := nI (a + 1)) dX6_zeros_34 rfl (nI_inc _) (by decide) rfl ?_
        refine w_goto (tgt := 16) dX6_zeros_37 (by decide) ?_
        first | (have t := ih (a + 1) (by omega); rw [zcS, if_pos c_28] at t; exact w_lv [5, 4, 2, 3] t) | (have t := ih (a + 1) (by omega); rw [zcS, if_neg c_28] at t; exact w_lv [5, 4, 2, 3] t)
  refine w_aload_n dX6_zeros_0 rfl ?_
  refine w_iload_n dX6_zeros_1 rfl ?_
  refine y_callV dX6_zeros_2 lk_X6_124 [.int (nI k)] rfl (c_requireRule E l hl h hk) (g_recv.obj (ci := 6) rfl (by decide) (show 0 < N by omega)) rfl ⟨⟨by decide, by decide⟩, by decide, by decide⟩ (lb rfl) ?_
  refine w_astore_n dX6_zeros_5 (by decide) rfl ?_
  refine w_iload_n dX6_zeros_6 rfl ?_
  refine z_callS dX6_zeros_7 lk_X6_133 [.int (nI m)] rfl (c_requireCounters E l _ (by omega)) rfl ⟨⟨by decide, by decide⟩, by decide, by decide⟩ (lb rfl) ?_
  refine w_iconst (v := 0) dX6_zeros_10 (by decide) ?_
  refine w_istore dX6_zeros_11 (by decide) rfl ?_
  refine w_iconst (v := 0) dX6_zeros_13 (by decide) ?_
  refine w_istore dX6_zeros_14 (by decide) rfl ?_
  exact w_lv [5, 4, 2, 3] (loop (m + 1) 0 (by omega))
set_option maxRecDepth 100000 in
theorem c_heapWith_x (hl : lk R N sw) (h : rC I J sw A n) {x : Int32} (hx : x < 0 ∨ ¬ x < nI A.nr) (z y : Int32) : g_Ct E l mX6_heapWith 7 111 1 6 [.ref 0, .int x, .int z, .int y] (I, J, R, D, N, ex) (g_ths "java/lang/IndexOutOfBoundsException" (I, J, R, D, N, false)) := by
  refine g_Ct.of (by decide +kernel) (lb rfl) ?_
  have hN := hl.2.2.2.2.2.2.2.2.2.2.2.2.2.2.2.2
  refine w_aload_n dX6_heapWith_0 rfl ?_
  refine w_iload_n dX6_heapWith_1 rfl ?_
  refine t_callV dX6_heapWith_2 lk_X6_124 [.int x] rfl (c_requireRule_x E l hl h hx) (g_recv.obj (ci := 6) rfl (by decide) (show 0 < N by omega)) rfl ⟨⟨by decide, by decide⟩, by decide, by decide⟩ (lb rfl) (w_out rfl ⟨rfl, rfl⟩ (by decide) (by decide))
set_option maxRecDepth 100000 in
theorem c_heapWith (hl : lk R N sw) (h : rC I J sw A n) {k : Nat} (hk : k < A.nr) (v ix : Int32) : g_Ct E l mX6_heapWith 7 111 0 0 [.ref 0, .int (nI k), .int v, .int ix] (I, J, R, D, N, ex) (g_is (some (.int (hwS (vS A.ru k) v 301 0 ix))) (I, J, R, D, N, ex)) := by
  refine g_Ct.of (by decide +kernel) (lb rfl) ?_
  have hN := hl.2.2.2.2.2.2.2.2.2.2.2.2.2.2.2.2
  have hgm := gm_b sw
  have hnr := h.1
  have hr := (hl.1.2.2.2.2.2.2 k (by omega)).2
  have hrN : gm sw + 4 + 3 * k < N := by have := hr.2.1; omega
  obtain ⟨hK, hS⟩ := h.2.2.1.2 k (by omega)
  have hK4 := (h.2.1.1 k (by omega)).1
  have hV : ∀ i, i < 301 → I (gm sw + 4 + 3 * k + 1) i = vS A.ru k i := fun i hi => by rw [show gm sw + 4 + 3 * k + 1 = gm sw + 5 + 3 * k by omega]; exact h.2.2.2.1 k hk i hi
  generalize hQ : hwS (vS A.ru k) v 301 0 ix = Q
  have loop : ∀ (f a : Nat) (lf : Int32), a + f = 301 → hwS (vS A.ru k) v f a lf = Q → g_Wp E l mX6_heapWith { frames := 7, cells := 0, slots := 0, locals := 111 } (g_Fin E (g_is (some (.int Q)) (I, J, R, D, N, ex)) 0 0) 0 0 13 [(6, .int (nI a)), (5, .int lf), (4, .ref (gm sw + 4 + 3 * k)), (2, .int v)] [] (I, J, R, D, N, ex) := by
    intro f
    induction f with
    | zero =>
      intro a lf ha hq
      obtain rfl : a = 301 := by omega
      refine w_iload dX6_heapWith_13 rfl ?_
      refine w_sipush (v := 300) dX6_heapWith_15 (by decide) ?_
      refine w_icmp_gt (tgt := 54) dX6_heapWith_18 (by decide) (fun c_18 => ?_) (fun c_18 => absurd ((by decide)) c_18)
      refine w_iconst (v := (-1)) dX6_heapWith_54 (by decide) ?_
      refine w_iret dX6_heapWith_55 rfl rfl ⟨rt_i (by rw [← hq]; rfl), rfl⟩ (by decide) (by decide)
    | succ f ih =>
      intro a lf ha hq
      rw [hwS] at hq
      refine w_iload dX6_heapWith_13 rfl ?_
      refine w_sipush (v := 300) dX6_heapWith_15 (by decide) ?_
      refine w_icmp_gt (tgt := 54) dX6_heapWith_18 (by decide) (fun c_18 => absurd c_18 ((nI_nlt (a := 300) (by omega) (by omega)))) (fun c_18 => ?_)
      refine w_iload dX6_heapWith_21 rfl ?_
      refine w_if_lt (tgt := 54) dX6_heapWith_23 (by decide) (fun c_23 => ?_) (fun c_23 => ?_)
      · refine w_iconst (v := (-1)) dX6_heapWith_54 (by decide) ?_
        refine w_iret dX6_heapWith_55 rfl rfl ⟨rt_i (by rw [← hq, if_pos c_23]), rfl⟩ (by decide) (by decide)
      · refine w_aload dX6_heapWith_26 rfl ?_
        refine w_iload dX6_heapWith_28 rfl ?_
        refine y_callV dX6_heapWith_30 lk_X6_143 [.int (nI a)] rfl (c_valueOf E l hr (by omega)) (g_recv.obj (ci := 2) hr.1 (by decide) hrN) rfl ⟨⟨by decide, by decide⟩, by decide, by decide⟩ (lb rfl) ?_
        rw [hV a (by omega)]
        refine w_iload_n dX6_heapWith_33 rfl ?_
        refine w_icmp_ne (tgt := 48) dX6_heapWith_34 (by decide) (fun c_34 => ?_) (fun c_34 => ?_)
        · refine w_iinc (v := nI (a + 1)) dX6_heapWith_48 rfl (nI_inc _) (by decide) rfl ?_
          refine w_goto (tgt := 13) dX6_heapWith_51 (by decide) ?_
          first | exact w_lv [6, 5, 4, 2] (ih (a + 1) lf (by omega) (by rw [← hq, if_neg c_23, if_neg c_34])) | exact w_lv [6, 5, 4, 2] (ih (a + 1) _ (by omega) (by rw [← hq, if_neg c_23, if_pos c_34, if_neg c_39]))
        · refine w_iload dX6_heapWith_37 rfl ?_
          refine w_if_ne (tgt := 45) dX6_heapWith_39 (by decide) (fun c_39 => ?_) (fun c_39 => ?_)
          · refine w_iinc (v := lf - 1) dX6_heapWith_45 rfl (i_pred lf) (by decide) rfl ?_
            refine w_iinc (v := nI (a + 1)) dX6_heapWith_48 rfl (nI_inc _) (by decide) rfl ?_
            refine w_goto (tgt := 13) dX6_heapWith_51 (by decide) ?_
            first | exact w_lv [6, 5, 4, 2] (ih (a + 1) lf (by omega) (by rw [← hq, if_neg c_23, if_neg c_34])) | exact w_lv [6, 5, 4, 2] (ih (a + 1) _ (by omega) (by rw [← hq, if_neg c_23, if_pos c_34, if_neg c_39]))
          · refine w_iload dX6_heapWith_42 rfl ?_
            refine w_iret dX6_heapWith_44 rfl rfl ⟨rt_i (by rw [← hq, if_neg c_23, if_pos c_34, if_pos c_39]), rfl⟩ (by decide) (by decide)
  refine w_aload_n dX6_heapWith_0 rfl ?_
  refine w_iload_n dX6_heapWith_1 rfl ?_
  refine y_callV dX6_heapWith_2 lk_X6_124 [.int (nI k)] rfl (c_requireRule E l hl h hk) (g_recv.obj (ci := 6) rfl (by decide) (show 0 < N by omega)) rfl ⟨⟨by decide, by decide⟩, by decide, by decide⟩ (lb rfl) ?_
  refine w_astore dX6_heapWith_5 (by decide) rfl ?_
  refine w_iload_n dX6_heapWith_7 rfl ?_
  refine w_istore dX6_heapWith_8 (by decide) rfl ?_
  refine w_iconst (v := 0) dX6_heapWith_10 (by decide) ?_
  refine w_istore dX6_heapWith_11 (by decide) rfl ?_
  exact w_lv [6, 5, 4, 2] (loop 301 0 ix (by omega) hQ)
end FC
