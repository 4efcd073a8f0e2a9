/-! HeapGames$Solver.prepare -/
def ruOK (ru : Ru) : Prop := (∀ k, k < 6 → ru.1 k ≤ 4 ∧ (amt (ru.2.1 k) 60).length ≤ 8) ∧ (amt ru.2.2.testBit 15).length ≤ 8 ∧ ru.2.2 < 65536
theorem okA_len {k : Nat} {S : Nat → Bool} (hk : k ≤ 4) (hS : (amt S 60).length ≤ 8) : ∀ n, n < 16 → (amt (okA k S n) n).length ≤ 8 := by
  intro n hn
  rcases (show k = 0 ∨ k = 1 ∨ k = 2 ∨ k = 3 ∨ k = 4 by omega) with rfl | rfl | rfl | rfl | rfl
  · rw [amt_cong (q' := S) (fun a h1 h2 => okA_eq h1 h2)]
    exact Nat.le_trans (amt_mono S n 60 (by omega)) hS
  · have h : ∀ n, n < 16 → (amt (okA 1 (fun _ => false) n) n).length ≤ 8 := by decide +kernel
    rw [amt_cong (q' := okA 1 (fun _ => false) n) (fun a h1 h2 => by rw [okA_eq h1 h2, okA_eq h1 h2]; rfl)]
    exact h n hn
  · have h : ∀ n, n < 16 → (amt (okA 2 (fun _ => false) n) n).length ≤ 8 := by decide +kernel
    rw [amt_cong (q' := okA 2 (fun _ => false) n) (fun a h1 h2 => by rw [okA_eq h1 h2, okA_eq h1 h2]; rfl)]
    exact h n hn
  · have h : ∀ n, n < 16 → (amt (okA 3 (fun _ => false) n) n).length ≤ 8 := by decide +kernel
    rw [amt_cong (q' := okA 3 (fun _ => false) n) (fun a h1 h2 => by rw [okA_eq h1 h2, okA_eq h1 h2]; rfl)]
    exact h n hn
  · have h : ∀ n, n < 16 → (amt (okA 4 (fun _ => false) n) n).length ≤ 8 := by decide +kernel
    rw [amt_cong (q' := okA 4 (fun _ => false) n) (fun a h1 h2 => by rw [okA_eq h1 h2, okA_eq h1 h2]; rfl)]
    exact h n hn
theorem cf_ok {ru : Ru} {rs : List Nat} {mi : Bool} (h : ruOK ru) (hr : rsOK rs) : (cfOf ru rs mi).ok := by
  refine ⟨hr.1, fun k _ n hn => ?_, fun n hn => ?_⟩
  · have := h.1 _ (hr.getD k)
    exact okA_len this.1 this.2 n hn
  · exact Nat.le_trans (amt_mono _ n 15 (by omega)) h.2.1
theorem or_bit {x a : Nat} (b : Nat) : (x ||| 2 ^ a).testBit b = (x.testBit b || decide (a = b)) := by rw [Nat.testBit_or, Nat.testBit_two_pow]
theorem fa_f {q : Nat → Bool} {x j : Nat} (hb : ∀ a, x.testBit a = (decide (1 ≤ a ∧ a ≤ j) && q a)) (hq : q (j + 1) = false) (a : Nat) : x.testBit a = (decide (1 ≤ a ∧ a ≤ j + 1) && q a) := by
  rw [hb a]
  rcases Decidable.em (a = j + 1) with z | z
  · rw [z, hq]; simp
  · congr 1
    exact decide_eq_decide.mpr (by omega)
theorem fa_t {q : Nat → Bool} {x j : Nat} (hb : ∀ a, x.testBit a = (decide (1 ≤ a ∧ a ≤ j) && q a)) (hq : q (j + 1) = true) (a : Nat) : (x ||| 2 ^ (j + 1)).testBit a = (decide (1 ≤ a ∧ a ≤ j + 1) && q a) := by
  rw [or_bit, hb a]
  rcases Decidable.em (a = j + 1) with z | z
  · rw [z, hq]; simp
  · rw [decide_eq_false (show ¬ j + 1 = a by omega), Bool.or_false]
    congr 1
    exact decide_eq_decide.mpr (by omega)
theorem or_lt16 {x a : Nat} (hx : x < 65536) (ha : a < 16) : x ||| 2 ^ a < 65536 := Nat.or_lt_two_pow (n := 16) hx (Nat.pow_lt_pow_right (by decide) ha)
section SE
variable (E : GE) (l : Launch)
variable {I : Nat → Nat → Int32} {J : Nat → Nat → Int64} {R : Nat → Nat → Option Nat} {D : Nat → Nat → UInt64} {N : Nat} {ex : Bool} {r g : Nat}
def faOK (I : Nat → Nat → Int32) (k : Nat) (S : Nat → Bool) (h n : Nat) : Prop := ∃ x, x < 65536 ∧ I 49 (h * 16 + n) = nI x ∧ ∀ a, 1 ≤ a → a ≤ n → x.testBit a = okA k S n a
def faP (I I' : Nat → Nat → Int32) (k : Nat) (S : Nat → Bool) (h m : Nat) : Prop := (∀ n, n < m → faOK I' k S h n) ∧ (∀ o, o ≠ 49 → I' o = I o) ∧ ∀ j, (j < h * 16 ∨ h * 16 + 16 ≤ j) → I' 49 j = I 49 j
set_option maxRecDepth 100000 in
theorem c_fillAllowed (hv : isV R N) (hr : isR R N r) (hr49 : r ≠ 49) {k : Nat} (hk : I r 1 = nI k) (hk4 : k ≤ 4) {h : Nat} (hh : h < 4) : g_Ct E l mX3_fillAllowed 2 43 0 0 [.ref 47, .int (nI h), .ref r] (I, J, R, D, N, ex) (g_rv (fun I' => faP I I' k (clS (J r 2)) h 16) J R D N ex) := by
  refine g_Ct.of (by decide +kernel) (lb rfl) ?_
  have h51 := hv.1
  have hrN : r < N := by have := hr.2.1; omega
  generalize hS : clS (J r 2) = S
  have loop : ∀ (f n : Nat) (I' : Nat → Nat → Int32), n + f = 16 → faP I I' k S h n → g_Wp E l mX3_fillAllowed { frames := 2, cells := 0, slots := 0, locals := 43 } (g_Fin E (g_rv (fun I' => faP I I' k S h 16) J R D N ex) 0 0) 0 0 2 [(3, .int (nI n)), (0, .ref 47), (1, .int (nI h)), (2, .ref r)] [] (I', J, R, D, N, ex) := by
    intro f
    induction f with
    | zero =>
      intro n I' hn h1
      obtain rfl : n = 16 := by omega
      refine w_iload_n dX3_fillAllowed_2 rfl ?_
      refine w_bipush (v := 15) dX3_fillAllowed_3 (by decide) ?_
      refine w_icmp_gt (tgt := 64) dX3_fillAllowed_5 (by decide) (fun c_5 => ?_) (fun c_5 => absurd ((by decide)) c_5)
      refine w_vret dX3_fillAllowed_64 rfl ⟨_, rfl, h1, rfl⟩ (by decide) (by decide)
    | succ f ih =>
      intro n I' hn h1
      have hk' : I' r 1 = nI k := by rw [h1.2.1 r hr49]; exact hk
      have inner : ∀ (m j x : Nat), j + m = n → x < 65536 → (∀ a, x.testBit a = (decide (1 ≤ a ∧ a ≤ j) && okA k S n a)) → g_Wp E l mX3_fillAllowed { frames := 2, cells := 0, slots := 0, locals := 43 } (g_Fin E (g_rv (fun I' => faP I I' k S h 16) J R D N ex) 0 0) 0 0 14 [(5, .int (nI (j + 1))), (4, .int (nI x)), (3, .int (nI n)), (0, .ref 47), (1, .int (nI h)), (2, .ref r)] [] (I', J, R, D, N, ex) := by
        intro m
        induction m with
        | zero =>
          intro j x hj hx hb
          obtain rfl : j = n := by omega
          refine w_iload dX3_fillAllowed_14 rfl ?_
          refine w_iload_n dX3_fillAllowed_16 rfl ?_
          refine w_icmp_gt (tgt := 45) dX3_fillAllowed_17 (by decide) (fun c_17 => ?_) (fun c_17 => absurd ((nI_lt (by omega) (by omega))) c_17)
          refine w_aload_n dX3_fillAllowed_45 rfl ?_
          refine x_getr (ci := 3) (k := 1) (a := 49) dX3_fillAllowed_46 rfl (by decide) (by decide) (by omega) fl_X3_16 (Or.inr ⟨_, rfl⟩) hv.2.2.1 ?_
          refine w_iload_n dX3_fillAllowed_49 rfl ?_
          refine w_bipush (v := 16) dX3_fillAllowed_50 (by decide) ?_
          refine w_imul dX3_fillAllowed_52 ?_
          refine w_st (show _ = [.int (nI (h * 16)), .ref 49] from by rw [← pk_mul]; rfl) ?_
          refine w_iload_n dX3_fillAllowed_53 rfl ?_
          refine w_iadd dX3_fillAllowed_54 ?_
          rw [nI_add]
          refine w_iload dX3_fillAllowed_55 rfl ?_
          refine x_iast (j := h * 16 + j) dX3_fillAllowed_57 rfl (by omega) rfl (show _ < 64 by omega) ?_
          refine w_iinc (v := nI (j + 1)) dX3_fillAllowed_58 rfl (nI_inc _) (by decide) rfl ?_
          refine w_goto (tgt := 2) dX3_fillAllowed_61 (by decide) ?_
          refine w_lv [3, 0, 1, 2] (ih (j + 1) _ (by omega) ⟨fun n hn => ?_, fun o p => ?_, fun i hi => ?_⟩)
          · rcases Nat.lt_or_ge n j with z | z
            · obtain ⟨y, y1, y2, y3⟩ := h1.1 n z
              exact ⟨y, y1, by rw [up2_n _ _ (by omega)]; exact y2, y3⟩
            · obtain rfl : n = j := by omega
              exact ⟨x, hx, by rw [up2_s], fun a a1 a2 => by rw [hb a, decide_eq_true ⟨a1, a2⟩, Bool.true_and]⟩
          · rw [← h1.2.1 o p]; funext i; simp [up2, p]
          · rw [up2_n _ _ (by omega)]; exact h1.2.2 i hi
        | succ m ihm =>
          intro j x hj hx hb
          refine w_iload dX3_fillAllowed_14 rfl ?_
          refine w_iload_n dX3_fillAllowed_16 rfl ?_
          refine w_icmp_gt (tgt := 45) dX3_fillAllowed_17 (by decide) (fun c_17 => absurd c_17 ((nI_nlt (by omega) (by omega)))) (fun c_17 => ?_)
          refine w_aload_n dX3_fillAllowed_20 rfl ?_
          refine w_iload_n dX3_fillAllowed_21 rfl ?_
          refine w_iload dX3_fillAllowed_22 rfl ?_
          refine y_callV dX3_fillAllowed_24 lk_X3_62 [.int (nI n), .int (nI (j + 1))] rfl (c_allows E l hr (by omega) hk' hk4 (nI (j + 1))) (g_recv.obj (ci := 2) hr.1 (by decide) hrN) rfl ⟨⟨by decide, by decide⟩, by decide, by decide⟩ (lb rfl) ?_
          rw [okI_nI (by omega) (by omega), hS]
          refine w_if_eq (tgt := 39) dX3_fillAllowed_27 (by decide) (fun c_27 => ?_) (fun c_27 => ?_)
          · refine w_iinc (v := nI (j + 1 + 1)) dX3_fillAllowed_39 rfl (nI_inc _) (by decide) rfl ?_
            refine w_goto (tgt := 14) dX3_fillAllowed_42 (by decide) ?_
            first | exact w_lv [5, 4, 3, 0, 1, 2] (ihm (j + 1) x (by omega) hx (fa_f hb (b2i_0.mp c_27))) | exact w_lv [5, 4, 3, 0, 1, 2] (ihm (j + 1) (x ||| 2 ^ (j + 1)) (by omega) (or_lt16 hx (by omega)) (fa_t hb (b2i_ne.mp c_27)))
          · refine w_iload dX3_fillAllowed_30 rfl ?_
            refine w_iconst (v := 1) dX3_fillAllowed_32 (by decide) ?_
            refine w_iload dX3_fillAllowed_33 rfl ?_
            refine w_ishl dX3_fillAllowed_35 ?_
            refine w_ior dX3_fillAllowed_36 ?_
            rw [show (1 : Int32) <<< (nI (j + 1) &&& 31) = nI (2 ^ (j + 1)) by rw [show (1 : Int32) = nI 1 from rfl, nx_shl (by omega), Nat.one_mul], nx_or]
            refine w_istore dX3_fillAllowed_37 (by decide) rfl ?_
            refine w_iinc (v := nI (j + 1 + 1)) dX3_fillAllowed_39 rfl (nI_inc _) (by decide) rfl ?_
            refine w_goto (tgt := 14) dX3_fillAllowed_42 (by decide) ?_
            first | exact w_lv [5, 4, 3, 0, 1, 2] (ihm (j + 1) x (by omega) hx (fa_f hb (b2i_0.mp c_27))) | exact w_lv [5, 4, 3, 0, 1, 2] (ihm (j + 1) (x ||| 2 ^ (j + 1)) (by omega) (or_lt16 hx (by omega)) (fa_t hb (b2i_ne.mp c_27)))
      refine w_iload_n dX3_fillAllowed_2 rfl ?_
      refine w_bipush (v := 15) dX3_fillAllowed_3 (by decide) ?_
      refine w_icmp_gt (tgt := 64) dX3_fillAllowed_5 (by decide) (fun c_5 => absurd c_5 ((nI_nlt (a := 15) (by omega) (by omega)))) (fun c_5 => ?_)
      refine w_iconst (v := 0) dX3_fillAllowed_8 (by decide) ?_
      refine w_istore dX3_fillAllowed_9 (by decide) rfl ?_
      refine w_iconst (v := 1) dX3_fillAllowed_11 (by decide) ?_
      refine w_istore dX3_fillAllowed_12 (by decide) rfl ?_
      refine w_lv [5, 4, 3, 0, 1, 2] (inner n 0 0 (by omega) (by omega) (fun a => ?_))
      rw [Nat.zero_testBit, decide_eq_false (by omega)]
      rfl
  refine w_iconst (v := 0) dX3_fillAllowed_0 (by decide) ?_
  refine w_istore_n dX3_fillAllowed_1 (by decide) rfl ?_
  refine w_lv [3, 0, 1, 2] (loop 16 0 I (by omega) ⟨fun n hn => absurd hn (Nat.not_lt_zero n), fun _ _ => rfl, fun _ _ => rfl⟩)
set_option maxRecDepth 100000 in
theorem c_forget (hN : 47 < N) : g_Ct E l mX3_forget 0 0 0 0 [.ref 47] (I, J, R, D, N, ex) (g_is none (up2 I 47 4 (-1), J, R, D, N, ex)) := by
  refine g_Ct.of (by decide +kernel) (lb rfl) ?_
  refine w_aload_n dX3_forget_0 rfl ?_
  refine w_iconst (v := (-1)) dX3_forget_1 (by decide) ?_
  refine x_puti (ci := 3) (k := 4) dX3_forget_2 rfl (by decide) (by decide) hN fl_X3_22 rfl rfl ?_
  refine w_vret dX3_forget_5 rfl ⟨rfl, rfl⟩ (by decide) (by decide)
theorem sQ_new {ru : Ru} {rs : List Nat} {mi : Bool} {st n : Nat} {T : Nat → Nat} (hst : st ≤ n) (hn : n < 100000) (hrs : rsOK rs) (hsh : ru.2.2 < 65536) (hT : ∀ p, p < 262144 → I 48 p = nI (T p) ∧ T p < (st + 1) * 8192) (k2 : I 47 4 = nI (wn rs mi)) (k3 : I 47 5 = nI (st + 1)) (k4 : I 47 6 = nI rs.length) (k5 : I 47 7 = nI ru.2.2) (k6 : I 47 8 = b2i mi)
    (k7 : ∀ j, j < 4 → ∀ n, n < 16 → faOK I (ru.1 (rs.getD j 0)) (ru.2.1 (rs.getD j 0)) j n) : sQ I ru rs mi (n + 1) T := by
  have hno : ∀ p, p < 262144 → ¬ kn T (st + 1) p := by
    intro p hp hk
    have h1 := (hT p hp).2
    have h2 : T p / 8192 = st + 1 := hk
    omega
  refine ⟨st + 1, by omega, k2, ⟨k4, ⟨ru.2.2, k5, hsh, fun _ _ _ => rfl, fun z a => ?_⟩, k6, ?_⟩, ⟨⟨k3, by omega, by omega, fun p hp => ⟨(hT p hp).1, ?_⟩⟩, fun p hp hk => absurd hk (hno p hp), fun p hp hk => absurd hk (hno p hp)⟩⟩
  · show ru.2.2.testBit a = false
    rw [z]
    exact Nat.zero_testBit a
  · intro j hj n hn
    exact k7 j (Nat.lt_of_lt_of_le hj hrs.1) n hn
  · exact Nat.lt_of_lt_of_le (hT p hp).2 (Nat.mul_le_mul_right _ (Nat.le_succ _))
set_option maxRecDepth 100000 in
theorem c_prepare (hv : isV R N) (hg : isG R N g) (hg47 : g + 22 ≤ 47) {ru : Ru} {rs : List Nat} {mi : Bool} (hm : gmP I J g ru rs mi) {n : Nat} (hn : n < 100000) (hp : sP I ru n) :
    g_Ct E l mX3_prepare 3 68 0 0 [.ref 47, .ref g] (I, J, R, D, N, ex) (g_rv (fun I' => frP I I' ∧ ∃ T, sQ I' ru rs mi (n + 1) T) J R D N ex) := by
  refine g_Ct.of (by decide +kernel) (lb rfl) ?_
  have h51 := hv.1
  have hgN := hg.2.1
  obtain ⟨hrs, m0, m1, m3, m2, hsh, hru⟩ := hm
  obtain ⟨st, T, hst, s5, hT, hW⟩ := hp
  have hrl := hrs.1
  have hlt := hrs.lt
  have hwl := wn_lt (mi := mi) hlt hrl
  have hW' : (I 47 4 = nI (wn rs mi) ∧ ∃ T, sQ I ru rs mi (n + 1) T) ∨ I 47 4 ≠ nI (wn rs mi) := by
    rcases hW with hW | ⟨rs', mi', q1, q2, q3, q4⟩
    · right
      rw [hW]
      intro q
      have := congrArg Int32.toInt q
      rw [nI_toInt (by omega)] at this
      have e : (-1 : Int32).toInt = -1 := rfl
      rw [e] at this
      omega
    · rcases Decidable.em (wn rs' mi' = wn rs mi) with z | z
      · left
        obtain ⟨e1, e2⟩ := wn_inj q1.lt hlt q1.1 hrl z
        subst e1; subst e2
        exact ⟨q2, T, st, by omega, q2, q3, q4⟩
      · right
        rw [q2]
        intro q
        exact z ((nI_eq (by have := wn_lt (mi := mi') q1.lt q1.1; omega) (by omega)).mp q)
  have hst3 : I (g + 2) 3 = 0 ∨ I (g + 2) 3 = 1 := by rw [m3]; exact b2i_01 mi
  have loop : ∀ (f h : Nat) (I' : Nat → Nat → Int32), h + f = 4 → (∀ o, o ≠ 47 → o ≠ 49 → I' o = I o) → I' 47 4 = nI (wn rs mi) → I' 47 5 = nI (st + 1) → I' 47 6 = nI rs.length → I' 47 7 = nI ru.2.2 → I' 47 8 = b2i mi → (∀ j, j < h → ∀ n, n < 16 → faOK I' (ru.1 (rs.getD j 0)) (ru.2.1 (rs.getD j 0)) j n) →
      g_Wp E l mX3_prepare { frames := 3, cells := 0, slots := 0, locals := 68 } (g_Fin E (g_rv (fun I' => frP I I' ∧ ∃ T, sQ I' ru rs mi (n + 1) T) J R D N ex) 0 0) 0 0 83 [(4, .int (nI h)), (0, .ref 47), (1, .ref g)] [] (I', J, R, D, N, ex) := by
    intro f
    induction f with
    | zero =>
      intro h I' hh k1 k2 k3 k4 k5 k6 k7
      obtain rfl : h = 4 := by omega
      refine w_iload dX3_prepare_83 rfl ?_
      refine w_iconst (v := 4) dX3_prepare_85 (by decide) ?_
      refine w_icmp_ge (tgt := 107) dX3_prepare_86 (by decide) (fun c_86 => ?_) (fun c_86 => absurd ((by decide)) c_86)
      refine w_vret dX3_prepare_107 rfl ⟨_, rfl, ⟨k1, T, sQ_new hst hn hrs hsh (fun p hp => by rw [k1 48 (by decide) (by decide)]; exact hT p hp) k2 k3 k4 k5 k6 k7⟩, rfl⟩ (by decide) (by decide)
    | succ f ih =>
      intro h I' hh k1 k2 k3 k4 k5 k6 k7
      have hge : rs.getD h 0 < 6 := hrs.getD h
      have hbits : s_bits (I' (g + 2) 1) (nI h) = nI (rs.getD h 0) := by
        rw [k1 (g + 2) (by omega) (by omega), m1, bits_nI (by have := pk4_16 hlt hrl; omega) (by omega)]
        have := pk4_get hlt h 0 (by omega) hrl
        rw [Nat.mul_zero, Nat.add_zero] at this
        rw [this]
      have hrr := (hg.2.2.2.2.2.2 _ hge).2
      obtain ⟨u1, u2, u3⟩ := hru _ hge
      have u1' : I' (g + 4 + 3 * rs.getD h 0) 1 = nI (ru.1 (rs.getD h 0)) := by rw [k1 _ (by omega) (by omega)]; exact u1
      refine w_iload dX3_prepare_83 rfl ?_
      refine w_iconst (v := 4) dX3_prepare_85 (by decide) ?_
      refine w_icmp_ge (tgt := 107) dX3_prepare_86 (by decide) (fun c_86 => absurd c_86 ((nI_ge (a := h) (b := 4) (by omega) (by omega)))) (fun c_86 => ?_)
      refine w_aload_n dX3_prepare_89 rfl ?_
      refine w_iload dX3_prepare_90 rfl ?_
      refine w_aload_n dX3_prepare_92 rfl ?_
      refine w_iload dX3_prepare_93 rfl ?_
      refine y_callV dX3_prepare_95 lk_X3_54 [.int (nI h)] rfl (c_ruleOfHeap E l hg hbits hge) (g_recv.obj (ci := 0) hg.1 (by decide) (show g < N by omega)) rfl ⟨⟨by decide, by decide⟩, by decide, by decide⟩ (lb rfl) ?_
      refine u_callV dX3_prepare_98 lk_X3_58 [.int (nI h), .ref (g + 4 + 3 * rs.getD h 0)] rfl (c_fillAllowed E l hv hrr (by omega) u1' u2 (show h < 4 by omega)) (g_recv.obj (ci := 3) rfl (by decide) (show 47 < N by omega)) rfl ⟨⟨by decide, by decide⟩, by decide, by decide⟩ (lb rfl) (fun I2 h_98 => ?_)
      refine w_iinc (v := nI (h + 1)) dX3_prepare_101 rfl (nI_inc _) (by decide) rfl ?_
      refine w_goto (tgt := 83) dX3_prepare_104 (by decide) ?_
      obtain ⟨f1, f2, f3⟩ := h_98
      rw [u3] at f1
      refine w_lv [4, 0, 1] (ih (h + 1) I2 (by omega) (fun o p1 p2 => (f2 o p2).trans (k1 o p1 p2)) ?_ ?_ ?_ ?_ ?_ (fun j hj n hn => ?_))
      · rw [f2 47 (by decide)]; exact k2
      · rw [f2 47 (by decide)]; exact k3
      · rw [f2 47 (by decide)]; exact k4
      · rw [f2 47 (by decide)]; exact k5
      · rw [f2 47 (by decide)]; exact k6
      · rcases Nat.lt_or_ge j h with z | z
        · obtain ⟨x, x1, x2, x3⟩ := k7 j z n hn
          exact ⟨x, x1, by rw [f3 _ (by omega)]; exact x2, x3⟩
        · obtain rfl : j = h := by omega
          exact f1 n hn
  have hg2 : g + 2 < N := by omega
  refine w_aload_n dX3_prepare_0 rfl ?_
  refine x_getr (ci := 0) (k := 3) (a := g + 2) dX3_prepare_1 hg.1 (by decide) (by decide) (by omega) fl_X3_29 (Or.inl ⟨_, rfl⟩) hg.2.2.2.2.1 ?_
  refine w_astore_n dX3_prepare_4 (by decide) rfl ?_
  refine w_aload_n dX3_prepare_5 rfl ?_
  refine x_geti (ci := 4) (k := 1) dX3_prepare_6 hg.2.2.2.2.2.1.1 (by decide) (by decide) hg2 fl_X3_35 rfl ?_
  refine w_aload_n dX3_prepare_9 rfl ?_
  refine x_geti (ci := 4) (k := 0) dX3_prepare_10 hg.2.2.2.2.2.1.1 (by decide) (by decide) hg2 fl_X3_40 rfl ?_
  refine w_bipush (v := 16) dX3_prepare_13 (by decide) ?_
  refine w_ishl dX3_prepare_15 ?_
  refine w_ior dX3_prepare_16 ?_
  refine w_aload_n dX3_prepare_17 rfl ?_
  refine x_getz (ci := 4) (k := 3) dX3_prepare_18 hg.2.2.2.2.2.1.1 (by decide) (by decide) hg2 fl_X3_43 rfl ?_
  rw [m0, m1, m3]
  refine w_if_eq (tgt := 29) dX3_prepare_21 (by decide) (fun c_21 => ?_) (fun c_21 => ?_)
  · refine w_iconst (v := 0) dX3_prepare_29 (by decide) ?_
    refine w_ior dX3_prepare_30 ?_
    refine w_st (show _ = [.int (nI (wn rs mi))] from by rw [← wn_or hlt hrl, show nI rs.length <<< ((16 : Int32) &&& 31) = nI (rs.length * 2 ^ 16) from nx_shl (c := 16) (by decide), nx_or]; first | (rw [b2i_0.mp c_21]; exact congrArg (fun x => [Value.int x]) (nx_or _ 0)) | (rw [b2i_ne.mp c_21]; exact congrArg (fun x => [Value.int x]) (nx_or _ 1048576))) ?_
    refine w_istore_n dX3_prepare_31 (by decide) rfl ?_
    refine w_iload_n dX3_prepare_32 rfl ?_
    refine w_aload_n dX3_prepare_33 rfl ?_
    refine x_geti (ci := 3) (k := 4) dX3_prepare_34 rfl (by decide) (by decide) (by omega) fl_X3_22 rfl ?_
    refine w_icmp_ne (tgt := 41) dX3_prepare_37 (by decide) (fun c_37 => ?_) (fun c_37 => ?_)
    · refine w_aload_n dX3_prepare_41 rfl ?_
      refine w_iload_n dX3_prepare_42 rfl ?_
      refine x_puti (ci := 3) (k := 4) dX3_prepare_43 rfl (by decide) (by decide) (by omega) fl_X3_22 rfl rfl ?_
      refine w_aload_n dX3_prepare_46 rfl ?_
      refine w_dup dX3_prepare_47 rfl ?_
      refine x_geti (ci := 3) (k := 5) dX3_prepare_48 rfl (by decide) (by decide) (by omega) fl_X3_26 rfl ?_
      refine w_iconst (v := 1) dX3_prepare_51 (by decide) ?_
      refine w_iadd dX3_prepare_52 ?_
      refine x_puti (ci := 3) (k := 5) dX3_prepare_53 rfl (by decide) (by decide) (by omega) fl_X3_26 rfl rfl ?_
      refine w_aload_n dX3_prepare_56 rfl ?_
      refine w_aload_n dX3_prepare_57 rfl ?_
      refine x_geti (ci := 4) (k := 0) dX3_prepare_58 hg.2.2.2.2.2.1.1 (by decide) (by decide) hg2 fl_X3_40 rfl ?_
      refine x_puti (ci := 3) (k := 6) dX3_prepare_61 rfl (by decide) (by decide) (by omega) fl_X3_48 rfl rfl ?_
      refine w_aload_n dX3_prepare_64 rfl ?_
      refine w_aload_n dX3_prepare_65 rfl ?_
      refine x_geti (ci := 0) (k := 2) dX3_prepare_66 hg.1 (by decide) (by decide) (by omega) fl_X3_49 rfl ?_
      refine x_puti (ci := 3) (k := 7) dX3_prepare_69 rfl (by decide) (by decide) (by omega) fl_X3_52 rfl rfl ?_
      refine w_aload_n dX3_prepare_72 rfl ?_
      refine w_aload_n dX3_prepare_73 rfl ?_
      refine x_getz (ci := 4) (k := 3) dX3_prepare_74 hg.2.2.2.2.2.1.1 (by decide) (by decide) hg2 fl_X3_43 rfl ?_
      refine x_putz (ci := 3) (k := 8) dX3_prepare_77 rfl (by decide) (by decide) (by omega) fl_X3_53 rfl rfl (by simpa [up2] using hst3) ?_
      refine w_iconst (v := 0) dX3_prepare_80 (by decide) ?_
      refine w_istore dX3_prepare_81 (by decide) rfl ?_
      refine w_lv [4, 0, 1] (loop 4 0 _ (by omega) (fun o p1 p2 => by funext j; simp [up2, p1]) (by simp [up2]) (by simp [up2, s5, nI_1]) (by simp [up2, m0]) (by simp [up2, m2, show ¬ g = 47 by omega]) (by simp [up2, m3]) (fun j hj => absurd hj (Nat.not_lt_zero j)))
    · refine w_vret dX3_prepare_40 rfl ⟨_, rfl, ⟨fun _ _ _ => rfl, by rcases hW' with z | z; exact z.2; exact absurd (Decidable.not_not.mp (fun q => q c_37.symm)) z⟩, rfl⟩ (by decide) (by decide)
  · refine w_ldc dX3_prepare_24 kc_X3_47 ?_
    refine w_goto (tgt := 30) dX3_prepare_26 (by decide) ?_
    refine w_ior dX3_prepare_30 ?_
    refine w_st (show _ = [.int (nI (wn rs mi))] from by rw [← wn_or hlt hrl, show nI rs.length <<< ((16 : Int32) &&& 31) = nI (rs.length * 2 ^ 16) from nx_shl (c := 16) (by decide), nx_or]; first | (rw [b2i_0.mp c_21]; exact congrArg (fun x => [Value.int x]) (nx_or _ 0)) | (rw [b2i_ne.mp c_21]; exact congrArg (fun x => [Value.int x]) (nx_or _ 1048576))) ?_
    refine w_istore_n dX3_prepare_31 (by decide) rfl ?_
    refine w_iload_n dX3_prepare_32 rfl ?_
    refine w_aload_n dX3_prepare_33 rfl ?_
    refine x_geti (ci := 3) (k := 4) dX3_prepare_34 rfl (by decide) (by decide) (by omega) fl_X3_22 rfl ?_
    refine w_icmp_ne (tgt := 41) dX3_prepare_37 (by decide) (fun c_37 => ?_) (fun c_37 => ?_)
    · refine w_aload_n dX3_prepare_41 rfl ?_
      refine w_iload_n dX3_prepare_42 rfl ?_
      refine x_puti (ci := 3) (k := 4) dX3_prepare_43 rfl (by decide) (by decide) (by omega) fl_X3_22 rfl rfl ?_
      refine w_aload_n dX3_prepare_46 rfl ?_
      refine w_dup dX3_prepare_47 rfl ?_
      refine x_geti (ci := 3) (k := 5) dX3_prepare_48 rfl (by decide) (by decide) (by omega) fl_X3_26 rfl ?_
      refine w_iconst (v := 1) dX3_prepare_51 (by decide) ?_
      refine w_iadd dX3_prepare_52 ?_
      refine x_puti (ci := 3) (k := 5) dX3_prepare_53 rfl (by decide) (by decide) (by omega) fl_X3_26 rfl rfl ?_
      refine w_aload_n dX3_prepare_56 rfl ?_
      refine w_aload_n dX3_prepare_57 rfl ?_
      refine x_geti (ci := 4) (k := 0) dX3_prepare_58 hg.2.2.2.2.2.1.1 (by decide) (by decide) hg2 fl_X3_40 rfl ?_
      refine x_puti (ci := 3) (k := 6) dX3_prepare_61 rfl (by decide) (by decide) (by omega) fl_X3_48 rfl rfl ?_
      refine w_aload_n dX3_prepare_64 rfl ?_
      refine w_aload_n dX3_prepare_65 rfl ?_
      refine x_geti (ci := 0) (k := 2) dX3_prepare_66 hg.1 (by decide) (by decide) (by omega) fl_X3_49 rfl ?_
      refine x_puti (ci := 3) (k := 7) dX3_prepare_69 rfl (by decide) (by decide) (by omega) fl_X3_52 rfl rfl ?_
      refine w_aload_n dX3_prepare_72 rfl ?_
      refine w_aload_n dX3_prepare_73 rfl ?_
      refine x_getz (ci := 4) (k := 3) dX3_prepare_74 hg.2.2.2.2.2.1.1 (by decide) (by decide) hg2 fl_X3_43 rfl ?_
      refine x_putz (ci := 3) (k := 8) dX3_prepare_77 rfl (by decide) (by decide) (by omega) fl_X3_53 rfl rfl (by simpa [up2] using hst3) ?_
      refine w_iconst (v := 0) dX3_prepare_80 (by decide) ?_
      refine w_istore dX3_prepare_81 (by decide) rfl ?_
      refine w_lv [4, 0, 1] (loop 4 0 _ (by omega) (fun o p1 p2 => by funext j; simp [up2, p1]) (by simp [up2]) (by simp [up2, s5, nI_1]) (by simp [up2, m0]) (by simp [up2, m2, show ¬ g = 47 by omega]) (by simp [up2, m3]) (fun j hj => absurd hj (Nat.not_lt_zero j)))
    · refine w_vret dX3_prepare_40 rfl ⟨_, rfl, ⟨fun _ _ _ => rfl, by rcases hW' with z | z; exact z.2; exact absurd (Decidable.not_not.mp (fun q => q c_37.symm)) z⟩, rfl⟩ (by decide) (by decide)
end SE
