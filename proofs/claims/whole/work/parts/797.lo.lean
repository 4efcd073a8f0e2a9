/-! HeapGamesModel: lostWith, lostBelow -/
theorem pA_set {m t k i : Nat} (hm : m ≤ 4) (hk : k < m) (hi : i < 16) (ht : t < 4 * 16 ^ m) : dig t k * 2 ^ (4 * k) ≤ t ∧ t - dig t k * 2 ^ (4 * k) + i * 2 ^ (4 * k) < 4 * 16 ^ m ∧ pA m (t - dig t k * 2 ^ (4 * k) + i * 2 ^ (4 * k)) = setN (pA m t) k i := by
  unfold pA setN
  rcases (show m = 1 ∨ m = 2 ∨ m = 3 ∨ m = 4 by omega) with rfl | rfl | rfl | rfl
  · obtain rfl : k = 0 := by omega
    simp only [Nat.reducePow, Nat.reduceMul, Nat.reduceAdd, dig0] at *
    omega
  · rcases (show k = 0 ∨ k = 1 by omega) with rfl | rfl <;> simp only [Nat.reducePow, Nat.reduceMul, Nat.reduceAdd, dig0, dig1] at * <;> omega
  · rcases (show k = 0 ∨ k = 1 ∨ k = 2 by omega) with rfl | rfl | rfl <;> simp only [Nat.reducePow, Nat.reduceMul, Nat.reduceAdd, dig0, dig1, dig2] at * <;> omega
  · rcases (show k = 0 ∨ k = 1 ∨ k = 2 ∨ k = 3 by omega) with rfl | rfl | rfl | rfl <;> simp only [Nat.reducePow, Nat.reduceMul, Nat.reduceAdd, dig0, dig1, dig2, dig3] at * <;> omega
theorem dig_hi (q x : Nat) {h : Nat} (hh : h < 4) : dig (65536 * q + x) h = dig x h := by
  rcases (show h = 0 ∨ h = 1 ∨ h = 2 ∨ h = 3 by omega) with rfl | rfl | rfl | rfl <;> simp only [dig0, dig1, dig2, dig3] <;> omega
theorem dig_sm {m x : Nat} (hm : m ≤ 4) (hx : x < 65536) : x < 16 ^ m ↔ ∀ h, m ≤ h → h < 4 → dig x h = 0 := by
  constructor
  · intro hlt h h1 h2
    rcases (show m = 0 ∨ m = 1 ∨ m = 2 ∨ m = 3 ∨ m = 4 by omega) with rfl | rfl | rfl | rfl | rfl <;> simp only [Nat.reducePow] at hlt <;> rcases (show h = 0 ∨ h = 1 ∨ h = 2 ∨ h = 3 by omega) with rfl | rfl | rfl | rfl <;> simp only [dig0, dig1, dig2, dig3] <;> omega
  · intro h
    rcases (show m = 0 ∨ m = 1 ∨ m = 2 ∨ m = 3 ∨ m = 4 by omega) with rfl | rfl | rfl | rfl | rfl
    · have a := h 0 (by omega) (by omega); have b := h 1 (by omega) (by omega); have c := h 2 (by omega) (by omega); have d := h 3 (by omega) (by omega)
      simp only [Nat.reducePow, dig0, dig1, dig2, dig3] at *
      omega
    · have b := h 1 (by omega) (by omega); have c := h 2 (by omega) (by omega); have d := h 3 (by omega) (by omega)
      simp only [Nat.reducePow, dig0, dig1, dig2, dig3] at *
      omega
    · have c := h 2 (by omega) (by omega); have d := h 3 (by omega) (by omega)
      simp only [Nat.reducePow, dig0, dig1, dig2, dig3] at *
      omega
    · have d := h 3 (by omega) (by omega)
      simp only [Nat.reducePow, dig0, dig1, dig2, dig3] at *
      omega
    · exact hx
theorem sz_out {s : St} {h : Nat} (hh : s.hs.length ≤ h) : s.sz h = 0 := by unfold St.sz; rw [List.getD_eq_getElem?_getD, List.getElem?_eq_none hh]; rfl
def isBl (s : St) (x : Nat) : Bool := decide (∀ h, h < s.hs.length → dig x h ≤ s.sz h)
theorem lec_bl {nr : Nat} {s : St} (hs : stOK nr s) {x : Nat} (hx : x < 65536) : lecB (65536 * s.ps + x) s.pos = (decide (x < 16 ^ s.hs.length) && isBl s x) := by
  have h4 := hs.1
  have hp := hs.ps
  have d : ∀ h, h < 4 → dig s.pos h = s.sz h := fun h hh => hs.dig hh
  have e : lecB (65536 * s.ps + x) s.pos = true ↔ ∀ h, h < 4 → dig x h ≤ s.sz h := by
    unfold lecB
    rw [decide_eq_true_iff, dig_hi _ _ (by decide), dig_hi _ _ (by decide), dig_hi _ _ (by decide), dig_hi _ _ (by decide), d 0 (by decide), d 1 (by decide), d 2 (by decide), d 3 (by decide)]
    constructor
    · rintro ⟨a0, a1, a2, a3, _⟩ h hh
      rcases (show h = 0 ∨ h = 1 ∨ h = 2 ∨ h = 3 by omega) with rfl | rfl | rfl | rfl <;> assumption
    · intro h
      exact ⟨h 0 (by decide), h 1 (by decide), h 2 (by decide), h 3 (by decide), by omega⟩
  apply Bool.eq_iff_iff.mpr
  rw [e, Bool.and_eq_true, decide_eq_true_iff]
  unfold isBl
  rw [decide_eq_true_iff]
  constructor
  · intro h
    refine ⟨(dig_sm h4 hx).mpr (fun k h1 h2 => ?_), fun k hk => h k (by omega)⟩
    have := h k h2
    rw [sz_out h1] at this
    omega
  · rintro ⟨hlt, h⟩ k hk
    rcases Nat.lt_or_ge k s.hs.length with z | z
    · exact h k z
    · rw [(dig_sm h4 hx).mp hlt k z hk]; exact Nat.zero_le _
section MT
variable (E : GE) (l : Launch)
variable {I : Nat → Nat → Int32} {J : Nat → Nat → Int64} {R : Nat → Nat → Option Nat} {D : Nat → Nat → UInt64} {N : Nat} {ex : Bool} {A : AS} {c : Nat}

set_option maxRecDepth 100000 in
theorem m_lostWith_x (hR : lkM R N) (hA : aOK A) (h : rM I A c) {x : Int32} (hx : x < 0 ∨ ¬ x < nI A.st.hs.length) : g_Ct E l mX7_lostWith 5 114 0 0 [.ref 79, .int x] (I, J, R, D, N, ex) (g_is (some (.int 0)) (up2 (up2 I 79 17 0) 79 17 1, J, R, D, N, ex)) := by
  refine g_Ct.of (by decide +kernel) (lb rfl) ?_
  have hN := hR.1
  have h9 := h.thr 0
  have z9 : up2 I 79 17 0 79 17 = 0 := up2_s ..
  refine w_aload_n dX7_lostWith_0 rfl ?_
  refine w_iconst (v := 0) dX7_lostWith_1 (by decide) ?_
  refine x_puti (ci := 7) (k := 17) dX7_lostWith_2 rfl (by decide) (by decide) (by omega) fl_X7_73 rfl rfl ?_
  refine w_aload_n dX7_lostWith_5 rfl ?_
  refine w_iload_n dX7_lostWith_6 rfl ?_
  refine y_callV dX7_lostWith_7 lk_X7_378 [.int x] rfl (m_mayHeap_f E l hR z9 h9.1.1 hA.2.2.1.1 hx) (g_recv.obj (ci := 7) rfl (by decide) (show 79 < N by omega)) rfl ⟨⟨by decide, by decide⟩, by decide, by decide⟩ (lb rfl) ?_
  refine w_if_ne (tgt := 15) dX7_lostWith_10 (by decide) (fun c_10 => absurd (rfl) c_10) (fun c_10 => ?_)
  refine w_iconst (v := 0) dX7_lostWith_13 (by decide) ?_
  refine w_iret dX7_lostWith_14 rfl rfl ⟨rfl, rfl⟩ (by decide) (by decide)
set_option maxRecDepth 100000 in
theorem m_lostWith (hR : lkM R N) (hA : aOK A) (h : rM I A c) (hc : c ≤ 1000) {k : Nat} (hk : k < A.st.hs.length) : g_Ct E l mX7_lostWith 5 114 0 0 [.ref 79, .int (nI k)] (I, J, R, D, N, ex) (g_ri (fun y I' => y = nI (lwS A k 16) ∧ qP I A c 0 I') J R D N ex) := by
  refine g_Ct.of (by decide +kernel) (lb rfl) ?_
  have hN := hR.1
  have h9 := h.thr 0
  have z9 : up2 I 79 17 0 79 17 = 0 := up2_s ..
  have hs := hA.2.2.1
  have h4 := hs.1
  have cm := cf_m A
  have h16 : 16 ^ A.st.hs.length ≤ 65536 := by have := Nat.pow_le_pow_right (show 0 < 16 by decide) h4; exact this
  obtain ⟨e1, e2, e3, e4⟩ := hAt_mod hs
  have hdk : dig (hAt A.st) k = A.st.sz k := hAt_dig hs hk
  have hsz := hs.sz k
  have loop : ∀ (f i : Nat) (I' : Nat → Nat → Int32), i + f = 16 → qP I A c 0 I' → tbA I' A → g_Wp E l mX7_lostWith { frames := 5, cells := 0, slots := 0, locals := 114 } (g_Fin E (g_ri (fun y I' => y = nI (lwS A k 16) ∧ qP I A c 0 I') J R D N ex) 0 0) 0 0 43 [(4, .int (nI i)), (3, .int (nI (lwS A k i))), (2, .int (nI (hAt A.st - A.st.sz k * 2 ^ (4 * k)))), (0, .ref 79), (1, .int (nI k))] [] (I', J, R, D, N, ex) := by
    intro f
    induction f with
    | zero =>
      intro i I' hi g1 g2
      obtain rfl : i = 16 := by omega
      refine w_iload dX7_lostWith_43 rfl ?_
      refine w_bipush (v := 15) dX7_lostWith_45 (by decide) ?_
      refine w_icmp_gt (tgt := 83) dX7_lostWith_47 (by decide) (fun c_47 => ?_) (fun c_47 => absurd ((by decide)) c_47)
      refine w_iload_n dX7_lostWith_83 rfl ?_
      refine w_iret dX7_lostWith_84 rfl rfl ⟨_, _, rfl, ⟨rfl, g1⟩, rfl⟩ (by decide) (by decide)
    | succ f ih =>
      intro i I' hi g1 g2
      have hlw := lwS_lt A k i
      have e : lwS A k (i + 1) = lwS A k i + if (val A.cf (setN A.st.pos k i)).1 then 0 else 2 ^ i := rfl
      obtain ⟨s1, s2, s3⟩ := pA_set (t := hAt A.st) h4 hk (show i < 16 by omega) e3
      rw [hdk] at s1 s2 s3
      rw [e4] at s3
      have ht := g2 _ s2
      rw [cm, s3] at ht
      have hp9 : setN A.st.pos k i < 262144 := by rw [← s3]; exact pA_lt h4 s2
      refine w_iload dX7_lostWith_43 rfl ?_
      refine w_bipush (v := 15) dX7_lostWith_45 (by decide) ?_
      refine w_icmp_gt (tgt := 83) dX7_lostWith_47 (by decide) (fun c_47 => absurd c_47 ((nI_nlt (a := 15) (by omega) (by omega)))) (fun c_47 => ?_)
      refine w_iload_n dX7_lostWith_50 rfl ?_
      refine w_aload_n dX7_lostWith_51 rfl ?_
      refine w_iload_n dX7_lostWith_52 rfl ?_
      refine w_iload dX7_lostWith_53 rfl ?_
      refine w_iload_n dX7_lostWith_55 rfl ?_
      refine y_callS dX7_lostWith_56 lk_X7_316 [.int (nI k)] rfl (m_weight E l _ (by omega)) rfl ⟨⟨by decide, by decide⟩, by decide, by decide⟩ (lb rfl) ?_
      refine w_imul dX7_lostWith_59 ?_
      rw [pk_mul]
      refine w_iadd dX7_lostWith_60 ?_
      rw [nI_add]
      refine y_callV dX7_lostWith_61 lk_X7_301 [.int (nI (hAt A.st - A.st.sz k * 2 ^ (4 * k) + i * 2 ^ (4 * k)))] rfl (m_isWonAt E l hR (by omega) ht (val_rs (by omega) hp9)) (g_recv.obj (ci := 7) rfl (by decide) (show 79 < N by omega)) rfl ⟨⟨by decide, by decide⟩, by decide, by decide⟩ (lb rfl) ?_
      refine w_if_eq (tgt := 71) dX7_lostWith_64 (by decide) (fun c_64 => ?_) (fun c_64 => ?_)
      · refine w_iconst (v := 1) dX7_lostWith_71 (by decide) ?_
        refine w_iload dX7_lostWith_72 rfl ?_
        refine w_ishl dX7_lostWith_74 ?_
        refine w_ior dX7_lostWith_75 ?_
        first | (have t9 := ih (i + 1) I' (by omega) g1 g2; rw [e, b2i_0.mp c_64] at t9; refine w_st (show _ = [.int (nI (lwS A k i + 2 ^ i))] from by rw [show (1 : Int32) <<< (nI i &&& 31) = nI (2 ^ i) by rw [show (1 : Int32) = nI 1 from rfl, nx_shl (by omega), Nat.one_mul], nx_or, Nat.or_comm, show 2 ^ i ||| lwS A k i = lwS A k i + 2 ^ i by have t := Nat.two_pow_add_eq_or_of_lt hlw 1; rw [Nat.mul_one] at t; omega]) ?_) | (have t9 := ih (i + 1) I' (by omega) g1 g2; rw [e, b2i_ne.mp c_64] at t9; refine w_st (show _ = [.int (nI (lwS A k i + 0))] from by rw [show (0 : Int32) = nI 0 from rfl, nx_or, Nat.or_zero]; rfl) ?_)
        refine w_istore_n dX7_lostWith_76 (by decide) rfl ?_
        refine w_iinc (v := nI (i + 1)) dX7_lostWith_77 rfl (nI_inc _) (by decide) rfl ?_
        refine w_goto (tgt := 43) dX7_lostWith_80 (by decide) ?_
        exact w_lv [4, 3, 2, 0, 1] t9
      · refine w_iconst (v := 0) dX7_lostWith_67 (by decide) ?_
        refine w_goto (tgt := 75) dX7_lostWith_68 (by decide) ?_
        refine w_ior dX7_lostWith_75 ?_
        first | (have t9 := ih (i + 1) I' (by omega) g1 g2; rw [e, b2i_0.mp c_64] at t9; refine w_st (show _ = [.int (nI (lwS A k i + 2 ^ i))] from by rw [show (1 : Int32) <<< (nI i &&& 31) = nI (2 ^ i) by rw [show (1 : Int32) = nI 1 from rfl, nx_shl (by omega), Nat.one_mul], nx_or, Nat.or_comm, show 2 ^ i ||| lwS A k i = lwS A k i + 2 ^ i by have t := Nat.two_pow_add_eq_or_of_lt hlw 1; rw [Nat.mul_one] at t; omega]) ?_) | (have t9 := ih (i + 1) I' (by omega) g1 g2; rw [e, b2i_ne.mp c_64] at t9; refine w_st (show _ = [.int (nI (lwS A k i + 0))] from by rw [show (0 : Int32) = nI 0 from rfl, nx_or, Nat.or_zero]; rfl) ?_)
        refine w_istore_n dX7_lostWith_76 (by decide) rfl ?_
        refine w_iinc (v := nI (i + 1)) dX7_lostWith_77 rfl (nI_inc _) (by decide) rfl ?_
        refine w_goto (tgt := 43) dX7_lostWith_80 (by decide) ?_
        exact w_lv [4, 3, 2, 0, 1] t9
  refine w_aload_n dX7_lostWith_0 rfl ?_
  refine w_iconst (v := 0) dX7_lostWith_1 (by decide) ?_
  refine x_puti (ci := 7) (k := 17) dX7_lostWith_2 rfl (by decide) (by decide) (by omega) fl_X7_73 rfl rfl ?_
  refine w_aload_n dX7_lostWith_5 rfl ?_
  refine w_iload_n dX7_lostWith_6 rfl ?_
  refine y_callV dX7_lostWith_7 lk_X7_378 [.int (nI k)] rfl (m_mayHeap_t E l hR z9 h9.1.1 hA.2.2.1.1 hk) (g_recv.obj (ci := 7) rfl (by decide) (show 79 < N by omega)) rfl ⟨⟨by decide, by decide⟩, by decide, by decide⟩ (lb rfl) ?_
  refine w_if_ne (tgt := 15) dX7_lostWith_10 (by decide) (fun c_10 => ?_) (fun c_10 => absurd c_10 ((by decide)))
  refine w_aload_n dX7_lostWith_15 rfl ?_
  refine u_callV dX7_lostWith_16 lk_X7_357 [] rfl (m_laysA E l hR hA h9 hc) (g_recv.obj (ci := 7) rfl (by decide) (show 79 < N by omega)) rfl ⟨⟨by decide, by decide⟩, by decide, by decide⟩ (lb rfl) (fun I2 h_16 => ?_)
  obtain ⟨k1, k2, k3⟩ := h_16
  have d5 := (k2.1.2.1 k hk).2
  rw [show 0 + 5 + k = 5 + k by omega] at d5
  have s1 := (pA_set (t := hAt A.st) (i := 0) h4 hk (by omega) e3).1
  rw [hdk] at s1
  refine w_aload_n dX7_lostWith_19 rfl ?_
  refine y_callV dX7_lostWith_20 lk_X7_341 [] rfl (m_here E l hR hs k2.1) (g_recv.obj (ci := 7) rfl (by decide) (show 79 < N by omega)) rfl ⟨⟨by decide, by decide⟩, by decide, by decide⟩ (lb rfl) ?_
  refine w_aload_n dX7_lostWith_23 rfl ?_
  refine x_getr (ci := 7) (k := 0) (a := 80) dX7_lostWith_24 rfl (by decide) (by decide) (by omega) fl_X7_7 (Or.inr ⟨_, rfl⟩) hR.2.1 ?_
  refine w_iconst (v := 5) dX7_lostWith_27 (by decide) ?_
  refine w_iload_n dX7_lostWith_28 rfl ?_
  refine w_iadd dX7_lostWith_29 ?_
  rw [show (5 : Int32) + nI k = nI (5 + k) from by rw [← nI_add]; rfl]
  refine x_iald (j := 5 + k) dX7_lostWith_30 rfl (by omega) rfl (show 5 + k < 172 by omega) ?_
  rw [d5]
  refine w_iload_n dX7_lostWith_31 rfl ?_
  refine y_callS dX7_lostWith_32 lk_X7_316 [.int (nI k)] rfl (m_weight E l _ (by omega)) rfl ⟨⟨by decide, by decide⟩, by decide, by decide⟩ (lb rfl) ?_
  refine w_imul dX7_lostWith_35 ?_
  rw [pk_mul]
  refine w_isub dX7_lostWith_36 ?_
  rw [pk_sub s1]
  refine w_istore_n dX7_lostWith_37 (by decide) rfl ?_
  refine w_iconst (v := 0) dX7_lostWith_38 (by decide) ?_
  refine w_istore_n dX7_lostWith_39 (by decide) rfl ?_
  refine w_iconst (v := 0) dX7_lostWith_40 (by decide) ?_
  refine w_istore dX7_lostWith_41 (by decide) rfl ?_
  exact w_lv [4, 3, 2, 0, 1] (loop 16 0 I2 (by omega) (qP.of k1.o k2) k3)
set_option maxRecDepth 100000 in
theorem m_isBelow (hR : lkM R N) {s : St} {nr : Nat} (hs : stOK nr s) (h : slM I 80 0 s) {t : Nat} (ht : t < 262144) : g_Ct E l mX7_isBelow 1 21 0 0 [.ref 79, .int (nI t)] (I, J, R, D, N, ex) (g_is (some (.int (b2i (isBl s t)))) (I, J, R, D, N, ex)) := by
  refine g_Ct.of (by decide +kernel) (lb rfl) ?_
  have hN := hR.1
  have h4 := hs.1
  have loop : ∀ f k : Nat, k + f = s.hs.length → (∀ j, j < k → dig t j ≤ s.sz j) → g_Wp E l mX7_isBelow { frames := 1, cells := 0, slots := 0, locals := 21 } (g_Fin E (g_is (some (.int (b2i (isBl s t)))) (I, J, R, D, N, ex)) 0 0) 0 0 2 [(2, .int (nI k)), (0, .ref 79), (1, .int (nI t))] [] (I, J, R, D, N, ex) := by
    intro f
    induction f with
    | zero =>
      intro k hk hj
      obtain rfl : k = s.hs.length := by omega
      refine w_iload_n dX7_isBelow_2 rfl ?_
      refine w_aload_n dX7_isBelow_3 rfl ?_
      refine x_getr (ci := 7) (k := 0) (a := 80) dX7_isBelow_4 rfl (by decide) (by decide) (by omega) fl_X7_7 (Or.inr ⟨_, rfl⟩) hR.2.1 ?_
      refine w_iconst (v := 0) dX7_isBelow_7 (by decide) ?_
      refine x_iald (j := 0) dX7_isBelow_8 rfl (by omega) rfl (show 0 < 172 by decide) ?_
      rw [h.1]
      refine w_icmp_ge (tgt := 36) dX7_isBelow_9 (by decide) (fun c_9 => ?_) (fun c_9 => absurd ((nI_le (by omega) (by omega))) c_9)
      refine w_iconst (v := 1) dX7_isBelow_36 (by decide) ?_
      refine w_iret dX7_isBelow_37 rfl rfl ⟨rt_t (decide_eq_true hj), rfl⟩ (by decide) (by decide)
    | succ f ih =>
      intro k hk hj
      have hkl : k < s.hs.length := by omega
      have d5 := (h.2.1 k hkl).2
      rw [show 0 + 5 + k = 5 + k by omega] at d5
      have hsz := hs.sz k
      have hdl := dig_lt t k
      refine w_iload_n dX7_isBelow_2 rfl ?_
      refine w_aload_n dX7_isBelow_3 rfl ?_
      refine x_getr (ci := 7) (k := 0) (a := 80) dX7_isBelow_4 rfl (by decide) (by decide) (by omega) fl_X7_7 (Or.inr ⟨_, rfl⟩) hR.2.1 ?_
      refine w_iconst (v := 0) dX7_isBelow_7 (by decide) ?_
      refine x_iald (j := 0) dX7_isBelow_8 rfl (by omega) rfl (show 0 < 172 by decide) ?_
      rw [h.1]
      refine w_icmp_ge (tgt := 36) dX7_isBelow_9 (by decide) (fun c_9 => absurd c_9 ((nI_ge (by omega) (by omega)))) (fun c_9 => ?_)
      refine w_iload_n dX7_isBelow_12 rfl ?_
      refine w_iload_n dX7_isBelow_13 rfl ?_
      refine y_callS dX7_isBelow_14 lk_X7_310 [.int (nI t), .int (nI k)] rfl (m_counters E l _ (by omega) (by omega)) rfl ⟨⟨by decide, by decide⟩, by decide, by decide⟩ (lb rfl) ?_
      refine w_aload_n dX7_isBelow_17 rfl ?_
      refine x_getr (ci := 7) (k := 0) (a := 80) dX7_isBelow_18 rfl (by decide) (by decide) (by omega) fl_X7_7 (Or.inr ⟨_, rfl⟩) hR.2.1 ?_
      refine w_iconst (v := 5) dX7_isBelow_21 (by decide) ?_
      refine w_iload_n dX7_isBelow_22 rfl ?_
      refine w_iadd dX7_isBelow_23 ?_
      rw [show (5 : Int32) + nI k = nI (5 + k) from by rw [← nI_add]; rfl]
      refine x_iald (j := 5 + k) dX7_isBelow_24 rfl (by omega) rfl (show 5 + k < 172 by omega) ?_
      rw [d5]
      refine w_icmp_le (tgt := 30) dX7_isBelow_25 (by decide) (fun c_25 => ?_) (fun c_25 => ?_)
      · refine w_iinc (v := nI (k + 1)) dX7_isBelow_30 rfl (nI_inc _) (by decide) rfl ?_
        refine w_goto (tgt := 2) dX7_isBelow_33 (by decide) ?_
        exact w_lv [2, 0, 1] (ih (k + 1) (by omega) (fun j h9 => by rcases Nat.lt_or_ge j k with z | z; exact hj j z; (obtain rfl : j = k := by omega); exact n_le (a := dig t j) (b := s.sz j) c_25))
      · refine w_iconst (v := 0) dX7_isBelow_28 (by decide) ?_
        refine w_iret dX7_isBelow_29 rfl rfl ⟨rt_f (decide_eq_false (fun q => by have := q k hkl; have := n_nle (a := dig t k) (b := s.sz k) c_25; omega)), rfl⟩ (by decide) (by decide)
  refine w_iconst (v := 0) dX7_isBelow_0 (by decide) ?_
  refine w_istore_n dX7_isBelow_1 (by decide) rfl ?_
  exact w_lv [2, 0, 1] (loop s.hs.length 0 (by omega) (fun j hj => absurd hj (Nat.not_lt_zero j)))
set_option maxRecDepth 100000 in
theorem m_lostBelow (hR : lkM R N) (hA : aOK A) (h : rM I A c) (hc : c ≤ 1000) : g_Ct E l mX7_lostBelow 5 114 0 0 [.ref 79] (I, J, R, D, N, ex) (g_ri (fun y I' => y = nI (cntR (lostF A.cf A.st.pos) (65536 * A.st.ps) 65536) ∧ qP I A c 0 I') J R D N ex) := by
  refine g_Ct.of (by decide +kernel) (lb rfl) ?_
  have hN := hR.1
  have h9 := h.thr 0
  have z9 : up2 I 79 17 0 79 17 = 0 := up2_s ..
  have hs := hA.2.2.1
  have h4 := hs.1
  have cm := cf_m A
  have h16 : 16 ^ A.st.hs.length ≤ 65536 := by have := Nat.pow_le_pow_right (show 0 < 16 by decide) h4; exact this
  have h30 : 16 ^ A.st.hs.length * 4 ≤ 262144 := by omega
  have hps := hs.2.2.1
  have hsk : cntR (lostF A.cf A.st.pos) (65536 * A.st.ps) 65536 = cntR (lostF A.cf A.st.pos) (65536 * A.st.ps) (16 ^ A.st.hs.length) := by
    have := cntR_skip (f := lostF A.cf A.st.pos) (lo := 65536 * A.st.ps) (n := 16 ^ A.st.hs.length) (65536 - 16 ^ A.st.hs.length) (fun i h1 h2 => by unfold lostF; rw [lec_bl hs (by omega), decide_eq_false (by omega)]; rfl)
    rw [← this]; congr 1; omega
  have loop : ∀ (f t : Nat) (I' : Nat → Nat → Int32), t + f = 16 ^ A.st.hs.length → qP I A c 0 I' → tbA I' A → g_Wp E l mX7_lostBelow { frames := 5, cells := 0, slots := 0, locals := 114 } (g_Fin E (g_ri (fun y I' => y = nI (cntR (lostF A.cf A.st.pos) (65536 * A.st.ps) 65536) ∧ qP I A c 0 I') J R D N ex) 0 0) 0 0 13 [(2, .int (nI t)), (1, .int (nI (cntR (lostF A.cf A.st.pos) (65536 * A.st.ps) t))), (0, .ref 79)] [] (I', J, R, D, N, ex) := by
    intro f
    induction f with
    | zero =>
      intro t I' ht g1 g2
      obtain rfl : t = 16 ^ A.st.hs.length := by omega
      refine w_iload_n dX7_lostBelow_13 rfl ?_
      refine w_aload_n dX7_lostBelow_14 rfl ?_
      refine y_callV dX7_lostBelow_15 lk_X7_286 [] rfl (m_positions E l hR g1.2.2.1.1 h4) (g_recv.obj (ci := 7) rfl (by decide) (show 79 < N by omega)) rfl ⟨⟨by decide, by decide⟩, by decide, by decide⟩ (lb rfl) ?_
      refine w_icmp_ge (tgt := 64) dX7_lostBelow_18 (by decide) (fun c_18 => ?_) (fun c_18 => absurd ((nI_le (by omega) (by omega))) c_18)
      refine w_iload_n dX7_lostBelow_64 rfl ?_
      refine w_iret dX7_lostBelow_65 rfl rfl ⟨_, _, rfl, ⟨by rw [hsk], g1⟩, rfl⟩ (by decide) (by decide)
    | succ f ih =>
      intro t I' ht g1 g2
      have t9 := ih (t + 1)
      rw [show cntR (lostF A.cf A.st.pos) (65536 * A.st.ps) (t + 1) = cntR (lostF A.cf A.st.pos) (65536 * A.st.ps) t + (if lostF A.cf A.st.pos (65536 * A.st.ps + t) then 1 else 0) from rfl] at t9
      have hpt : pA A.st.hs.length (16 ^ A.st.hs.length * A.st.ps + t) = 65536 * A.st.ps + t := by
        unfold pA
        rw [Nat.mul_add_mod, Nat.mod_eq_of_lt (show t < 16 ^ A.st.hs.length by omega), Nat.mul_add_div (Nat.pow_pos (by decide)), Nat.div_eq_of_lt (show t < 16 ^ A.st.hs.length by omega)]
        omega
      have hml : 16 ^ A.st.hs.length * A.st.ps ≤ 16 ^ A.st.hs.length * 3 := Nat.mul_le_mul_left _ hps
      have htb := g2 (16 ^ A.st.hs.length * A.st.ps + t) (by omega)
      rw [cm, hpt] at htb
      have hvr : rsL (val A.cf (65536 * A.st.ps + t)) := val_rs (by omega) (by omega)
      have hlo : lostF A.cf A.st.pos (65536 * A.st.ps + t) = (isBl A.st t && !(val A.cf (65536 * A.st.ps + t)).1) := by unfold lostF; rw [lec_bl hs (by omega), decide_eq_true (show t < 16 ^ A.st.hs.length by omega), Bool.true_and]
      rw [hlo] at t9
      have e9 : I' 80 9 = nI A.st.ps := g1.2.2.1.2.2.1
      refine w_iload_n dX7_lostBelow_13 rfl ?_
      refine w_aload_n dX7_lostBelow_14 rfl ?_
      refine y_callV dX7_lostBelow_15 lk_X7_286 [] rfl (m_positions E l hR g1.2.2.1.1 h4) (g_recv.obj (ci := 7) rfl (by decide) (show 79 < N by omega)) rfl ⟨⟨by decide, by decide⟩, by decide, by decide⟩ (lb rfl) ?_
      refine w_icmp_ge (tgt := 64) dX7_lostBelow_18 (by decide) (fun c_18 => absurd c_18 ((nI_ge (by omega) (by omega)))) (fun c_18 => ?_)
      refine w_iload_n dX7_lostBelow_21 rfl ?_
      refine w_aload_n dX7_lostBelow_22 rfl ?_
      refine w_iload_n dX7_lostBelow_23 rfl ?_
      refine y_callV dX7_lostBelow_24 lk_X7_384 [.int (nI t)] rfl (m_isBelow E l hR hs g1.2.2.1 (by omega)) (g_recv.obj (ci := 7) rfl (by decide) (show 79 < N by omega)) rfl ⟨⟨by decide, by decide⟩, by decide, by decide⟩ (lb rfl) ?_
      refine w_if_eq (tgt := 55) dX7_lostBelow_27 (by decide) (fun c_27 => ?_) (fun c_27 => ?_)
      · refine w_iconst (v := 0) dX7_lostBelow_55 (by decide) ?_
        refine w_iadd dX7_lostBelow_56 ?_
        first | (rw [b2i_0.mp c_27, Bool.false_and, if_neg (by decide)] at t9; refine w_st (show _ = [.int (nI (cntR (lostF A.cf A.st.pos) (65536 * A.st.ps) t + 0))] from by rw [← nI_add]; rfl) ?_) | (rw [b2i_ne.mp c_48, Bool.not_true, Bool.and_false, if_neg (by decide)] at t9; refine w_st (show _ = [.int (nI (cntR (lostF A.cf A.st.pos) (65536 * A.st.ps) t + 0))] from by rw [← nI_add]; rfl) ?_) | (rw [b2i_ne.mp c_27, b2i_0.mp c_48, Bool.not_false, Bool.and_self, if_pos rfl] at t9; refine w_st (show _ = [.int (nI (cntR (lostF A.cf A.st.pos) (65536 * A.st.ps) t + 1))] from by rw [← nI_add]; rfl) ?_)
        refine w_istore_n dX7_lostBelow_57 (by decide) rfl ?_
        refine w_iinc (v := nI (t + 1)) dX7_lostBelow_58 rfl (nI_inc _) (by decide) rfl ?_
        refine w_goto (tgt := 13) dX7_lostBelow_61 (by decide) ?_
        exact w_lv [2, 1, 0] (t9 I' (by omega) g1 g2)
      · refine w_aload_n dX7_lostBelow_30 rfl ?_
        refine w_aload_n dX7_lostBelow_31 rfl ?_
        refine y_callV dX7_lostBelow_32 lk_X7_286 [] rfl (m_positions E l hR g1.2.2.1.1 h4) (g_recv.obj (ci := 7) rfl (by decide) (show 79 < N by omega)) rfl ⟨⟨by decide, by decide⟩, by decide, by decide⟩ (lb rfl) ?_
        refine w_aload_n dX7_lostBelow_35 rfl ?_
        refine x_getr (ci := 7) (k := 0) (a := 80) dX7_lostBelow_36 rfl (by decide) (by decide) (by omega) fl_X7_7 (Or.inr ⟨_, rfl⟩) hR.2.1 ?_
        refine w_bipush (v := 9) dX7_lostBelow_39 (by decide) ?_
        refine x_iald (j := 9) dX7_lostBelow_41 rfl (by omega) rfl (show 9 < 172 by decide) ?_
        rw [e9]
        refine w_imul dX7_lostBelow_42 ?_
        rw [pk_mul]
        refine w_iload_n dX7_lostBelow_43 rfl ?_
        refine w_iadd dX7_lostBelow_44 ?_
        rw [nI_add]
        refine y_callV dX7_lostBelow_45 lk_X7_301 [.int (nI (16 ^ A.st.hs.length * A.st.ps + t))] rfl (m_isWonAt E l hR (by omega) htb hvr) (g_recv.obj (ci := 7) rfl (by decide) (show 79 < N by omega)) rfl ⟨⟨by decide, by decide⟩, by decide, by decide⟩ (lb rfl) ?_
        refine w_if_ne (tgt := 55) dX7_lostBelow_48 (by decide) (fun c_48 => ?_) (fun c_48 => ?_)
        · refine w_iconst (v := 0) dX7_lostBelow_55 (by decide) ?_
          refine w_iadd dX7_lostBelow_56 ?_
          first | (rw [b2i_0.mp c_27, Bool.false_and, if_neg (by decide)] at t9; refine w_st (show _ = [.int (nI (cntR (lostF A.cf A.st.pos) (65536 * A.st.ps) t + 0))] from by rw [← nI_add]; rfl) ?_) | (rw [b2i_ne.mp c_48, Bool.not_true, Bool.and_false, if_neg (by decide)] at t9; refine w_st (show _ = [.int (nI (cntR (lostF A.cf A.st.pos) (65536 * A.st.ps) t + 0))] from by rw [← nI_add]; rfl) ?_) | (rw [b2i_ne.mp c_27, b2i_0.mp c_48, Bool.not_false, Bool.and_self, if_pos rfl] at t9; refine w_st (show _ = [.int (nI (cntR (lostF A.cf A.st.pos) (65536 * A.st.ps) t + 1))] from by rw [← nI_add]; rfl) ?_)
          refine w_istore_n dX7_lostBelow_57 (by decide) rfl ?_
          refine w_iinc (v := nI (t + 1)) dX7_lostBelow_58 rfl (nI_inc _) (by decide) rfl ?_
          refine w_goto (tgt := 13) dX7_lostBelow_61 (by decide) ?_
          exact w_lv [2, 1, 0] (t9 I' (by omega) g1 g2)
        · refine w_iconst (v := 1) dX7_lostBelow_51 (by decide) ?_
          refine w_goto (tgt := 56) dX7_lostBelow_52 (by decide) ?_
          refine w_iadd dX7_lostBelow_56 ?_
          first | (rw [b2i_0.mp c_27, Bool.false_and, if_neg (by decide)] at t9; refine w_st (show _ = [.int (nI (cntR (lostF A.cf A.st.pos) (65536 * A.st.ps) t + 0))] from by rw [← nI_add]; rfl) ?_) | (rw [b2i_ne.mp c_48, Bool.not_true, Bool.and_false, if_neg (by decide)] at t9; refine w_st (show _ = [.int (nI (cntR (lostF A.cf A.st.pos) (65536 * A.st.ps) t + 0))] from by rw [← nI_add]; rfl) ?_) | (rw [b2i_ne.mp c_27, b2i_0.mp c_48, Bool.not_false, Bool.and_self, if_pos rfl] at t9; refine w_st (show _ = [.int (nI (cntR (lostF A.cf A.st.pos) (65536 * A.st.ps) t + 1))] from by rw [← nI_add]; rfl) ?_)
          refine w_istore_n dX7_lostBelow_57 (by decide) rfl ?_
          refine w_iinc (v := nI (t + 1)) dX7_lostBelow_58 rfl (nI_inc _) (by decide) rfl ?_
          refine w_goto (tgt := 13) dX7_lostBelow_61 (by decide) ?_
          exact w_lv [2, 1, 0] (t9 I' (by omega) g1 g2)
  refine w_aload_n dX7_lostBelow_0 rfl ?_
  refine w_iconst (v := 0) dX7_lostBelow_1 (by decide) ?_
  refine x_puti (ci := 7) (k := 17) dX7_lostBelow_2 rfl (by decide) (by decide) (by omega) fl_X7_73 rfl rfl ?_
  refine w_aload_n dX7_lostBelow_5 rfl ?_
  refine u_callV dX7_lostBelow_6 lk_X7_357 [] rfl (m_laysA E l hR hA h9 hc) (g_recv.obj (ci := 7) rfl (by decide) (show 79 < N by omega)) rfl ⟨⟨by decide, by decide⟩, by decide, by decide⟩ (lb rfl) (fun I2 h_6 => ?_)
  obtain ⟨k1, k2, k3⟩ := h_6
  refine w_iconst (v := 0) dX7_lostBelow_9 (by decide) ?_
  refine w_istore_n dX7_lostBelow_10 (by decide) rfl ?_
  refine w_iconst (v := 0) dX7_lostBelow_11 (by decide) ?_
  refine w_istore_n dX7_lostBelow_12 (by decide) rfl ?_
  exact w_lv [2, 1, 0] (loop (16 ^ A.st.hs.length) 0 I2 (by omega) (qP.of k1.o k2) k3)
end MT
