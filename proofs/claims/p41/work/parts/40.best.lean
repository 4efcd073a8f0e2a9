/-! HeapGames: the best move; what moves lead to; lostWith; played; size -/
theorem sub_le0 {a b : Nat} (ha : a < 1000) (hb : b < 1000) : nI a - nI b ≤ 0 ↔ a ≤ b := by
  rw [Int32.le_iff_toInt_le, Int32.toInt_sub, nI_toInt (by omega), nI_toInt (by omega)]
  have e : (0 : Int32).toInt = 0 := rfl
  rw [e, Int.bmod_def]
  split <;> omega
theorem sub_ge0 {a b : Nat} (ha : a < 1000) (hb : b < 1000) : 0 ≤ nI a - nI b ↔ b ≤ a := by
  rw [Int32.le_iff_toInt_le, Int32.toInt_sub, nI_toInt (by omega), nI_toInt (by omega)]
  have e : (0 : Int32).toInt = 0 := rfl
  rw [e, Int.bmod_def]
  split <;> omega
def btr (x y : Rs) : Bool := if x.1 = y.1 then (if x.1 then decide (y.2.1 < x.2.1) else decide (x.2.1 < y.2.1)) else !x.1
theorem b2i_inj {a b : Bool} (h : b2i a = b2i b) : a = b := by cases a <;> cases b <;> first | rfl | (exact absurd h (by decide))
def bsF (os : List Rs) : Nat → Option Nat
  | 0 => none
  | i + 1 => match bsF os i with
    | none => some i
    | some b => if btr (os.getD i (false, 0, 0)) (os.getD b (false, 0, 0)) then some i else some b
theorem bsF_lt {os : List Rs} : ∀ {i b : Nat}, bsF os i = some b → b < i
  | 0, b, h => by cases h
  | i + 1, b, h => by
    rw [bsF] at h
    split at h
    · cases h; omega
    · rename_i c hc
      have := bsF_lt hc
      split at h <;> cases h <;> omega
theorem bsF_pos {os : List Rs} {i : Nat} (h : 0 < i) : ∃ b, bsF os i = some b := by
  obtain ⟨j, rfl⟩ : ∃ j, i = j + 1 := ⟨i - 1, by omega⟩
  rw [bsF]
  split
  · exact ⟨_, rfl⟩
  · split <;> exact ⟨_, rfl⟩
def wnF (os : List Rs) : Nat → Nat
  | 0 => 0
  | i + 1 => wnF os i + if (os.getD i (false, 0, 0)).1 then 0 else 1
theorem wnF_le (os : List Rs) : ∀ i, wnF os i ≤ i
  | 0 => Nat.le_refl _
  | i + 1 => by rw [wnF]; have := wnF_le os i; split <;> omega
theorem opv_getD {c : Cf} {p i : Nat} (hi : i < (mvs c p).length) : (opv c p).getD i (false, 0, 0) = val c (p - ((mvs c p)[i]).code) := by
  have h : i < (opv c p).length := by rw [opv, List.length_map]; exact hi
  rw [List.getD_eq_getElem?_getD, List.getElem?_eq_getElem h]
  simp [opv]
/-- where a move leads to is found out -/
theorem rdy.opt {I : Nat → Nat → Int32} {A : AS} {st : Nat} {T : Nat → Nat} (hc : A.cf.ok) (hp : A.st.pos < 262144) (h : svT I A.cf st T) (hk : kn T st A.st.pos) {i : Nat} (hi : i < (mvs A.cf A.st.pos).length) : A.st.pos - ((mvs A.cf A.st.pos)[i]).code < 262144 ∧ kn T st (A.st.pos - ((mvs A.cf A.st.pos)[i]).code) := by
  have := mv_wt hc.1 (mem_mvs (List.getElem_mem hi))
  exact ⟨by omega, h.2.2 _ hp hk _ this.2.2.2⟩
section FG
variable (E : GE) (l : Launch)
variable {I : Nat → Nat → Int32} {J : Nat → Nat → Int64} {R : Nat → Nat → Option Nat} {D : Nat → Nat → UInt64} {N : Nat} {ex : Bool} {sw : Bool} {A : AS} {n : Nat}
set_option maxRecDepth 100000 in
theorem c_isBetter (hl : lk R N sw) {c : Cf} (hc : c.m ≤ 4) {st : Nat} {T : Nat → Nat} (ht : svT I c st T) {p q : Nat} (hp : p < 262144) (hq : q < 262144) (hkp : kn T st p) (hkq : kn T st q) : g_Ct E l mX6_isBetter 2 43 0 0 [.ref 0, .int (nI p), .int (nI q)] (I, J, R, D, N, ex) (g_is (some (.int (b2i (btr (val c p) (val c q))))) (I, J, R, D, N, ex)) := by
  refine g_Ct.of (by decide +kernel) (lb rfl) ?_
  have hN := hl.2.2.2.2.2.2.2.2.2.2.2.2.2.2.2.2
  have hv := hl.2.2.1
  have b1 := val_le hc p
  have b2 := val_le hc q
  have b3 := wt_le hp
  have b4 := wt_le hq
  refine w_aload_n dX6_isBetter_0 rfl ?_
  refine x_getr (ci := 6) (k := 2) (a := 47) dX6_isBetter_1 rfl (by decide) (by decide) (by omega) fl_X6_26 (Or.inl ⟨_, rfl⟩) hl.2.2.2.2.2.2.1 ?_
  refine w_iload_n dX6_isBetter_4 rfl ?_
  refine y_callV dX6_isBetter_5 lk_X6_192 [.int (nI p)] rfl (c_Sv_isWonAt E l hv hc ht hp hkp) (g_recv.obj (ci := 3) rfl (by decide) (show 47 < N by omega)) rfl ⟨⟨by decide, by decide⟩, by decide, by decide⟩ (lb rfl) ?_
  refine w_istore_n dX6_isBetter_8 (by decide) rfl ?_
  refine w_iload_n dX6_isBetter_9 rfl ?_
  refine w_aload_n dX6_isBetter_10 rfl ?_
  refine x_getr (ci := 6) (k := 2) (a := 47) dX6_isBetter_11 rfl (by decide) (by decide) (by omega) fl_X6_26 (Or.inl ⟨_, rfl⟩) hl.2.2.2.2.2.2.1 ?_
  refine w_iload_n dX6_isBetter_14 rfl ?_
  refine y_callV dX6_isBetter_15 lk_X6_192 [.int (nI q)] rfl (c_Sv_isWonAt E l hv hc ht hq hkq) (g_recv.obj (ci := 3) rfl (by decide) (show 47 < N by omega)) rfl ⟨⟨by decide, by decide⟩, by decide, by decide⟩ (lb rfl) ?_
  refine w_icmp_eq (tgt := 31) dX6_isBetter_18 (by decide) (fun c_18 => ?_) (fun c_18 => ?_)
  · refine w_aload_n dX6_isBetter_31 rfl ?_
    refine x_getr (ci := 6) (k := 2) (a := 47) dX6_isBetter_32 rfl (by decide) (by decide) (by omega) fl_X6_26 (Or.inl ⟨_, rfl⟩) hl.2.2.2.2.2.2.1 ?_
    refine w_iload_n dX6_isBetter_35 rfl ?_
    refine y_callV dX6_isBetter_36 lk_X6_195 [.int (nI p)] rfl (c_Sv_lengthAt E l hv hc ht hp hkp) (g_recv.obj (ci := 3) rfl (by decide) (show 47 < N by omega)) rfl ⟨⟨by decide, by decide⟩, by decide, by decide⟩ (lb rfl) ?_
    refine w_aload_n dX6_isBetter_39 rfl ?_
    refine x_getr (ci := 6) (k := 2) (a := 47) dX6_isBetter_40 rfl (by decide) (by decide) (by omega) fl_X6_26 (Or.inl ⟨_, rfl⟩) hl.2.2.2.2.2.2.1 ?_
    refine w_iload_n dX6_isBetter_43 rfl ?_
    refine y_callV dX6_isBetter_44 lk_X6_195 [.int (nI q)] rfl (c_Sv_lengthAt E l hv hc ht hq hkq) (g_recv.obj (ci := 3) rfl (by decide) (show 47 < N by omega)) rfl ⟨⟨by decide, by decide⟩, by decide, by decide⟩ (lb rfl) ?_
    refine w_isub dX6_isBetter_47 ?_
    refine w_istore dX6_isBetter_48 (by decide) rfl ?_
    refine w_iload_n dX6_isBetter_50 rfl ?_
    refine w_if_eq (tgt := 67) dX6_isBetter_51 (by decide) (fun c_51 => ?_) (fun c_51 => ?_)
    · refine w_iload dX6_isBetter_67 rfl ?_
      refine w_if_ge (tgt := 76) dX6_isBetter_69 (by decide) (fun c_69 => ?_) (fun c_69 => ?_)
      · refine w_iconst (v := 0) dX6_isBetter_76 (by decide) ?_
        refine w_iret dX6_isBetter_77 rfl (by rfl) (by have he : (val c p).1 = (val c q).1 := b2i_inj c_18; first | exact ⟨rt_t (by unfold btr; rw [if_pos he, b2i_0.mp c_51]; exact decide_eq_true (Nat.not_le.mp (fun z => c_69 ((sub_ge0 (by omega) (by omega)).mpr z)))), rfl⟩ | exact ⟨rt_f (by unfold btr; rw [if_pos he, b2i_0.mp c_51]; exact decide_eq_false (Nat.not_lt.mpr ((sub_ge0 (by omega) (by omega)).mp c_69))), rfl⟩ | exact ⟨rt_f (by unfold btr; rw [if_pos he, b2i_ne.mp c_51]; exact decide_eq_false (Nat.not_lt.mpr ((sub_le0 (by omega) (by omega)).mp c_56))), rfl⟩ | exact ⟨rt_t (by unfold btr; rw [if_pos he, b2i_ne.mp c_51]; exact decide_eq_true (Nat.not_le.mp (fun z => c_56 ((sub_le0 (by omega) (by omega)).mpr z)))), rfl⟩) (by decide) (by decide)
      · refine w_iconst (v := 1) dX6_isBetter_72 (by decide) ?_
        refine w_goto (tgt := 77) dX6_isBetter_73 (by decide) ?_
        refine w_iret dX6_isBetter_77 rfl (by rfl) (by have he : (val c p).1 = (val c q).1 := b2i_inj c_18; first | exact ⟨rt_t (by unfold btr; rw [if_pos he, b2i_0.mp c_51]; exact decide_eq_true (Nat.not_le.mp (fun z => c_69 ((sub_ge0 (by omega) (by omega)).mpr z)))), rfl⟩ | exact ⟨rt_f (by unfold btr; rw [if_pos he, b2i_0.mp c_51]; exact decide_eq_false (Nat.not_lt.mpr ((sub_ge0 (by omega) (by omega)).mp c_69))), rfl⟩ | exact ⟨rt_f (by unfold btr; rw [if_pos he, b2i_ne.mp c_51]; exact decide_eq_false (Nat.not_lt.mpr ((sub_le0 (by omega) (by omega)).mp c_56))), rfl⟩ | exact ⟨rt_t (by unfold btr; rw [if_pos he, b2i_ne.mp c_51]; exact decide_eq_true (Nat.not_le.mp (fun z => c_56 ((sub_le0 (by omega) (by omega)).mpr z)))), rfl⟩) (by decide) (by decide)
    · refine w_iload dX6_isBetter_54 rfl ?_
      refine w_if_le (tgt := 63) dX6_isBetter_56 (by decide) (fun c_56 => ?_) (fun c_56 => ?_)
      · refine w_iconst (v := 0) dX6_isBetter_63 (by decide) ?_
        refine w_goto (tgt := 77) dX6_isBetter_64 (by decide) ?_
        refine w_iret dX6_isBetter_77 rfl (by rfl) (by have he : (val c p).1 = (val c q).1 := b2i_inj c_18; first | exact ⟨rt_t (by unfold btr; rw [if_pos he, b2i_0.mp c_51]; exact decide_eq_true (Nat.not_le.mp (fun z => c_69 ((sub_ge0 (by omega) (by omega)).mpr z)))), rfl⟩ | exact ⟨rt_f (by unfold btr; rw [if_pos he, b2i_0.mp c_51]; exact decide_eq_false (Nat.not_lt.mpr ((sub_ge0 (by omega) (by omega)).mp c_69))), rfl⟩ | exact ⟨rt_f (by unfold btr; rw [if_pos he, b2i_ne.mp c_51]; exact decide_eq_false (Nat.not_lt.mpr ((sub_le0 (by omega) (by omega)).mp c_56))), rfl⟩ | exact ⟨rt_t (by unfold btr; rw [if_pos he, b2i_ne.mp c_51]; exact decide_eq_true (Nat.not_le.mp (fun z => c_56 ((sub_le0 (by omega) (by omega)).mpr z)))), rfl⟩) (by decide) (by decide)
      · refine w_iconst (v := 1) dX6_isBetter_59 (by decide) ?_
        refine w_goto (tgt := 77) dX6_isBetter_60 (by decide) ?_
        refine w_iret dX6_isBetter_77 rfl (by rfl) (by have he : (val c p).1 = (val c q).1 := b2i_inj c_18; first | exact ⟨rt_t (by unfold btr; rw [if_pos he, b2i_0.mp c_51]; exact decide_eq_true (Nat.not_le.mp (fun z => c_69 ((sub_ge0 (by omega) (by omega)).mpr z)))), rfl⟩ | exact ⟨rt_f (by unfold btr; rw [if_pos he, b2i_0.mp c_51]; exact decide_eq_false (Nat.not_lt.mpr ((sub_ge0 (by omega) (by omega)).mp c_69))), rfl⟩ | exact ⟨rt_f (by unfold btr; rw [if_pos he, b2i_ne.mp c_51]; exact decide_eq_false (Nat.not_lt.mpr ((sub_le0 (by omega) (by omega)).mp c_56))), rfl⟩ | exact ⟨rt_t (by unfold btr; rw [if_pos he, b2i_ne.mp c_51]; exact decide_eq_true (Nat.not_le.mp (fun z => c_56 ((sub_le0 (by omega) (by omega)).mpr z)))), rfl⟩) (by decide) (by decide)
  · refine w_iload_n dX6_isBetter_21 rfl ?_
    refine w_if_ne (tgt := 29) dX6_isBetter_22 (by decide) (fun c_22 => ?_) (fun c_22 => ?_)
    · refine w_iconst (v := 0) dX6_isBetter_29 (by decide) ?_
      refine w_iret dX6_isBetter_30 rfl (by rfl) (by have hne : ¬ (val c p).1 = (val c q).1 := fun z => c_18 (congrArg b2i z); first | exact ⟨rt_f (by unfold btr; rw [if_neg hne, b2i_ne.mp c_22]; rfl), rfl⟩ | exact ⟨rt_t (by unfold btr; rw [if_neg hne, b2i_0.mp c_22]; rfl), rfl⟩) (by decide) (by decide)
    · refine w_iconst (v := 1) dX6_isBetter_25 (by decide) ?_
      refine w_goto (tgt := 30) dX6_isBetter_26 (by decide) ?_
      refine w_iret dX6_isBetter_30 rfl (by rfl) (by have hne : ¬ (val c p).1 = (val c q).1 := fun z => c_18 (congrArg b2i z); first | exact ⟨rt_f (by unfold btr; rw [if_neg hne, b2i_ne.mp c_22]; rfl), rfl⟩ | exact ⟨rt_t (by unfold btr; rw [if_neg hne, b2i_0.mp c_22]; rfl), rfl⟩) (by decide) (by decide)
set_option maxRecDepth 100000 in
theorem c_findBest (hl : lk R N sw) (h : rC I J sw A n) {m : Nat} (hr : rdy I A m A.st.pos) : g_Ct E l mX6_findBest 5 112 0 0 [.ref 0] (I, J, R, D, N, ex) (g_ri (fun x I' => x = o2i (bsF (opv A.cf A.st.pos) (mvs A.cf A.st.pos).length) ∧ nxOK I' A.st.pos (mvs A.cf A.st.pos) ∧ frX I I') J R D N ex) := by
  refine g_Ct.of (by decide +kernel) (lb rfl) ?_
  have hN := hl.2.2.2.2.2.2.2.2.2.2.2.2.2.2.2.2
  have hv := hl.2.2.1
  have hok := h.2.2.2.2.1
  have hc : A.cf.ok := cf_ok h.2.1 (hok.rs h.1.2)
  have h81 := mvs_81 hc A.st.pos
  have hr' := hr
  obtain ⟨st, T, q1, q2, q3, q4, q5⟩ := hr'
  have loop : ∀ (f i : Nat) (I' : Nat → Nat → Int32), i + f = (mvs A.cf A.st.pos).length → nxOK I' A.st.pos (mvs A.cf A.st.pos) → frX I I' → g_Wp E l mX6_findBest { frames := 5, cells := 0, slots := 0, locals := 112 } (g_Fin E (g_ri (fun x I' => x = o2i (bsF (opv A.cf A.st.pos) (mvs A.cf A.st.pos).length) ∧ nxOK I' A.st.pos (mvs A.cf A.st.pos) ∧ frX I I') J R D N ex) 0 0) 0 0 9 [(3, .int (nI i)), (2, .int (o2i (bsF (opv A.cf A.st.pos) i))), (1, .int (nI (mvs A.cf A.st.pos).length)), (0, .ref 0)] [] (I', J, R, D, N, ex) := by
    intro f
    induction f with
    | zero =>
      intro i I' hi h1 h2
      obtain rfl : i = (mvs A.cf A.st.pos).length := by omega
      refine w_iload_n dX6_findBest_9 rfl ?_
      refine w_iload_n dX6_findBest_10 rfl ?_
      refine w_icmp_ge (tgt := 50) dX6_findBest_11 (by decide) (fun c_11 => ?_) (fun c_11 => absurd ((nI_le (by omega) (by omega))) c_11)
      refine w_iload_n dX6_findBest_50 rfl ?_
      refine w_iret dX6_findBest_51 rfl rfl ⟨_, _, rfl, ⟨rfl, h1, h2⟩, rfl⟩ (by decide) (by decide)
    | succ f ih =>
      intro i I' hi h1 h2
      have hil : i < (mvs A.cf A.st.pos).length := by omega
      cases hb : bsF (opv A.cf A.st.pos) i with
      | none =>
        have e : bsF (opv A.cf A.st.pos) (i + 1) = some i := by rw [bsF, hb]
        refine w_iload_n dX6_findBest_9 rfl ?_
        refine w_iload_n dX6_findBest_10 rfl ?_
        refine w_icmp_ge (tgt := 50) dX6_findBest_11 (by decide) (fun c_11 => absurd c_11 ((nI_ge (by omega) (by omega)))) (fun c_11 => ?_)
        refine w_iload_n dX6_findBest_14 rfl ?_
        refine w_iconst (v := (-1)) dX6_findBest_15 (by decide) ?_
        refine w_icmp_eq (tgt := 42) dX6_findBest_16 (by decide) (fun c_16 => ?_) (fun c_16 => absurd (rfl) c_16)
        refine w_iload_n dX6_findBest_42 rfl ?_
        refine w_istore_n dX6_findBest_43 (by decide) rfl ?_
        refine w_iinc (v := nI (i + 1)) dX6_findBest_44 rfl (nI_inc _) (by decide) rfl ?_
        refine w_goto (tgt := 9) dX6_findBest_47 (by decide) ?_
        have t := ih (i + 1) I' (by omega) h1 h2
        rw [e] at t
        exact w_lv [3, 2, 1, 0] t
      | some b =>
        have hbi := bsF_lt hb
        have hne : ¬ o2i (some b) = -1 := by
          intro z
          have := o2i_none z (fun t ht => by cases ht; omega)
          cases this
        obtain ⟨a1, a2⟩ := rdy.opt hc hok.pos q4 q5 hil
        obtain ⟨b1, b2⟩ := rdy.opt hc hok.pos q4 q5 (show b < (mvs A.cf A.st.pos).length by omega)
        have e : bsF (opv A.cf A.st.pos) (i + 1) = if btr (val A.cf (A.st.pos - ((mvs A.cf A.st.pos)[i]).code)) (val A.cf (A.st.pos - ((mvs A.cf A.st.pos)[b]).code)) then some i else some b := by rw [bsF, hb]; simp only []; rw [opv_getD hil, opv_getD (by omega)]
        refine w_iload_n dX6_findBest_9 rfl ?_
        refine w_iload_n dX6_findBest_10 rfl ?_
        refine w_icmp_ge (tgt := 50) dX6_findBest_11 (by decide) (fun c_11 => absurd c_11 ((nI_ge (by omega) (by omega)))) (fun c_11 => ?_)
        refine w_iload_n dX6_findBest_14 rfl ?_
        refine w_iconst (v := (-1)) dX6_findBest_15 (by decide) ?_
        refine w_icmp_eq (tgt := 42) dX6_findBest_16 (by decide) (fun c_16 => absurd c_16 (hne)) (fun c_16 => ?_)
        refine w_aload_n dX6_findBest_19 rfl ?_
        refine w_aload_n dX6_findBest_20 rfl ?_
        refine x_getr (ci := 6) (k := 2) (a := 47) dX6_findBest_21 rfl (by decide) (by decide) (by omega) fl_X6_26 (Or.inl ⟨_, rfl⟩) hl.2.2.2.2.2.2.1 ?_
        refine w_iload_n dX6_findBest_24 rfl ?_
        refine y_callV dX6_findBest_25 lk_X6_200 [.int (nI i)] rfl (c_nextAt E l hv (by omega)) (g_recv.obj (ci := 3) rfl (by decide) (show 47 < N by omega)) rfl ⟨⟨by decide, by decide⟩, by decide, by decide⟩ (lb rfl) ?_
        rw [h1.2 i hil]
        refine w_aload_n dX6_findBest_28 rfl ?_
        refine x_getr (ci := 6) (k := 2) (a := 47) dX6_findBest_29 rfl (by decide) (by decide) (by omega) fl_X6_26 (Or.inl ⟨_, rfl⟩) hl.2.2.2.2.2.2.1 ?_
        refine w_iload_n dX6_findBest_32 rfl ?_
        refine y_callV dX6_findBest_33 lk_X6_200 [.int (nI b)] rfl (c_nextAt E l hv (by omega)) (g_recv.obj (ci := 3) rfl (by decide) (show 47 < N by omega)) rfl ⟨⟨by decide, by decide⟩, by decide, by decide⟩ (lb rfl) ?_
        rw [h1.2 b (by omega)]
        refine y_callV dX6_findBest_36 lk_X6_209 [.int (nI (A.st.pos - ((mvs A.cf A.st.pos)[i]).code)), .int (nI (A.st.pos - ((mvs A.cf A.st.pos)[b]).code))] rfl (c_isBetter E l hl hc.1 (q4.fr h2) a1 b1 a2 b2) (g_recv.obj (ci := 6) rfl (by decide) (show 0 < N by omega)) rfl ⟨⟨by decide, by decide⟩, by decide, by decide⟩ (lb rfl) ?_
        refine w_if_eq (tgt := 44) dX6_findBest_39 (by decide) (fun c_39 => ?_) (fun c_39 => ?_)
        · refine w_iinc (v := nI (i + 1)) dX6_findBest_44 rfl (nI_inc _) (by decide) rfl ?_
          refine w_goto (tgt := 9) dX6_findBest_47 (by decide) ?_
          first | (have t := ih (i + 1) I' (by omega) h1 h2; rw [e, b2i_0.mp c_39] at t; exact w_lv [3, 2, 1, 0] t) | (have t := ih (i + 1) I' (by omega) h1 h2; rw [e, b2i_ne.mp c_39] at t; exact w_lv [3, 2, 1, 0] t)
        · refine w_iload_n dX6_findBest_42 rfl ?_
          refine w_istore_n dX6_findBest_43 (by decide) rfl ?_
          refine w_iinc (v := nI (i + 1)) dX6_findBest_44 rfl (nI_inc _) (by decide) rfl ?_
          refine w_goto (tgt := 9) dX6_findBest_47 (by decide) ?_
          first | (have t := ih (i + 1) I' (by omega) h1 h2; rw [e, b2i_0.mp c_39] at t; exact w_lv [3, 2, 1, 0] t) | (have t := ih (i + 1) I' (by omega) h1 h2; rw [e, b2i_ne.mp c_39] at t; exact w_lv [3, 2, 1, 0] t)
  refine w_aload_n dX6_findBest_0 rfl ?_
  refine v_callV dX6_findBest_1 lk_X6_121 [] rfl (c_listMovesR E l hl h hr) (g_recv.obj (ci := 6) rfl (by decide) (show 0 < N by omega)) rfl ⟨⟨by decide, by decide⟩, by decide, by decide⟩ (lb rfl) (fun x_1 I' h_1 => ?_)
  obtain ⟨e1, e2, e3⟩ := h_1
  rw [e1]
  refine w_istore_n dX6_findBest_4 (by decide) rfl ?_
  refine w_iconst (v := (-1)) dX6_findBest_5 (by decide) ?_
  refine w_istore_n dX6_findBest_6 (by decide) rfl ?_
  refine w_iconst (v := 0) dX6_findBest_7 (by decide) ?_
  refine w_istore_n dX6_findBest_8 (by decide) rfl ?_
  exact w_lv [3, 2, 1, 0] (loop (mvs A.cf A.st.pos).length 0 I' (by omega) e2 e3)
theorem rC.rd {I I' : Nat → Nat → Int32} {J : Nat → Nat → Int64} {sw : Bool} {A : AS} {n m t : Nat} (h : rC I J sw A n) (f : frS I I') (hr : rdy I' A m t) : rC I' J sw A m := h.sv f (hr.p.s (h.2.2.2.2.1.rs h.1.2))
set_option maxRecDepth 100000 in
theorem c_best (hl : lk R N sw) (h : rC I J sw A n) (hn5 : n < 100000) : g_Ct E l mX6_best 6 142 0 0 [.ref 0] (I, J, R, D, N, ex) (g_ri (fun x I' => x = o2i (bsF (opv A.cf A.st.pos) (mvs A.cf A.st.pos).length) ∧ nxOK I' A.st.pos (mvs A.cf A.st.pos) ∧ frS I I' ∧ rdy I' A (n + 1) A.st.pos) J R D N ex) := by
  refine g_Ct.of (by decide +kernel) (lb rfl) ?_
  have hN := hl.2.2.2.2.2.2.2.2.2.2.2.2.2.2.2.2
  refine w_aload_n dX6_best_0 rfl ?_
  refine u_callV dX6_best_1 lk_X6_186 [] rfl (c_solvePosition E l hl h hn5) (g_recv.obj (ci := 6) rfl (by decide) (show 0 < N by omega)) rfl ⟨⟨by decide, by decide⟩, by decide, by decide⟩ (lb rfl) (fun I' h_1 => ?_)
  obtain ⟨f1, hr⟩ := h_1
  refine w_aload_n dX6_best_4 rfl ?_
  refine v_callV dX6_best_5 lk_X6_206 [] rfl (c_findBest E l hl (h.rd f1 hr) hr) (g_recv.obj (ci := 6) rfl (by decide) (show 0 < N by omega)) rfl ⟨⟨by decide, by decide⟩, by decide, by decide⟩ (lb rfl) (fun x_5 I2 h_5 => ?_)
  obtain ⟨e1, e2, e3⟩ := h_5
  refine w_iret dX6_best_8 rfl rfl ⟨_, _, rfl, ⟨e1, e2, f1.trans e3.s, hr.x e3⟩, rfl⟩ (by decide) (by decide)
set_option maxRecDepth 100000 in
theorem c_winning (hl : lk R N sw) (h : rC I J sw A n) (hn5 : n < 100000) : g_Ct E l mX6_winning 6 142 0 0 [.ref 0] (I, J, R, D, N, ex) (g_ri (fun x I' => x = nI (wnF (opv A.cf A.st.pos) (mvs A.cf A.st.pos).length) ∧ frS I I' ∧ rdy I' A (n + 1) A.st.pos) J R D N ex) := by
  refine g_Ct.of (by decide +kernel) (lb rfl) ?_
  have hN := hl.2.2.2.2.2.2.2.2.2.2.2.2.2.2.2.2
  have hv := hl.2.2.1
  have hok := h.2.2.2.2.1
  have hc : A.cf.ok := cf_ok h.2.1 (hok.rs h.1.2)
  have h81 := mvs_81 hc A.st.pos
  have loop : ∀ (f i : Nat) (I' : Nat → Nat → Int32), i + f = (mvs A.cf A.st.pos).length → nxOK I' A.st.pos (mvs A.cf A.st.pos) → frS I I' → rdy I' A (n + 1) A.st.pos → g_Wp E l mX6_winning { frames := 6, cells := 0, slots := 0, locals := 142 } (g_Fin E (g_ri (fun x I' => x = nI (wnF (opv A.cf A.st.pos) (mvs A.cf A.st.pos).length) ∧ frS I I' ∧ rdy I' A (n + 1) A.st.pos) J R D N ex) 0 0) 0 0 13 [(3, .int (nI i)), (2, .int (nI (wnF (opv A.cf A.st.pos) i))), (1, .int (nI (mvs A.cf A.st.pos).length)), (0, .ref 0)] [] (I', J, R, D, N, ex) := by
    intro f
    induction f with
    | zero =>
      intro i I' hi h1 h2 hr
      obtain rfl : i = (mvs A.cf A.st.pos).length := by omega
      refine w_iload_n dX6_winning_13 rfl ?_
      refine w_iload_n dX6_winning_14 rfl ?_
      refine w_icmp_ge (tgt := 45) dX6_winning_15 (by decide) (fun c_15 => ?_) (fun c_15 => absurd ((nI_le (by omega) (by omega))) c_15)
      refine w_iload_n dX6_winning_45 rfl ?_
      refine w_iret dX6_winning_46 rfl rfl ⟨_, _, rfl, ⟨rfl, h2, hr⟩, rfl⟩ (by decide) (by decide)
    | succ f ih =>
      intro i I' hi h1 h2 hr
      have hil : i < (mvs A.cf A.st.pos).length := by omega
      have hw := wnF_le (opv A.cf A.st.pos) i
      have hr' := hr
      obtain ⟨st, T, q1, q2, q3, q4, q5⟩ := hr'
      obtain ⟨a1, a2⟩ := rdy.opt hc hok.pos q4 q5 hil
      have e : wnF (opv A.cf A.st.pos) (i + 1) = wnF (opv A.cf A.st.pos) i + if (val A.cf (A.st.pos - ((mvs A.cf A.st.pos)[i]).code)).1 then 0 else 1 := by rw [wnF, opv_getD hil]
      refine w_iload_n dX6_winning_13 rfl ?_
      refine w_iload_n dX6_winning_14 rfl ?_
      refine w_icmp_ge (tgt := 45) dX6_winning_15 (by decide) (fun c_15 => absurd c_15 ((nI_ge (by omega) (by omega)))) (fun c_15 => ?_)
      refine w_aload_n dX6_winning_18 rfl ?_
      refine x_getr (ci := 6) (k := 2) (a := 47) dX6_winning_19 rfl (by decide) (by decide) (by omega) fl_X6_26 (Or.inl ⟨_, rfl⟩) hl.2.2.2.2.2.2.1 ?_
      refine w_aload_n dX6_winning_22 rfl ?_
      refine x_getr (ci := 6) (k := 2) (a := 47) dX6_winning_23 rfl (by decide) (by decide) (by omega) fl_X6_26 (Or.inl ⟨_, rfl⟩) hl.2.2.2.2.2.2.1 ?_
      refine w_iload_n dX6_winning_26 rfl ?_
      refine y_callV dX6_winning_27 lk_X6_200 [.int (nI i)] rfl (c_nextAt E l hv (by omega)) (g_recv.obj (ci := 3) rfl (by decide) (show 47 < N by omega)) rfl ⟨⟨by decide, by decide⟩, by decide, by decide⟩ (lb rfl) ?_
      rw [h1.2 i hil]
      refine y_callV dX6_winning_30 lk_X6_192 [.int (nI (A.st.pos - ((mvs A.cf A.st.pos)[i]).code))] rfl (c_Sv_isWonAt E l hv hc.1 q4 a1 a2) (g_recv.obj (ci := 3) rfl (by decide) (show 47 < N by omega)) rfl ⟨⟨by decide, by decide⟩, by decide, by decide⟩ (lb rfl) ?_
      refine w_if_ne (tgt := 39) dX6_winning_33 (by decide) (fun c_33 => ?_) (fun c_33 => ?_)
      · refine w_iinc (v := nI (i + 1)) dX6_winning_39 rfl (nI_inc _) (by decide) rfl ?_
        refine w_goto (tgt := 13) dX6_winning_42 (by decide) ?_
        first | (have t := ih (i + 1) I' (by omega) h1 h2 hr; rw [e, b2i_0.mp c_33] at t; exact w_lv [3, 2, 1, 0] t) | (have t := ih (i + 1) I' (by omega) h1 h2 hr; rw [e, b2i_ne.mp c_33] at t; exact w_lv [3, 2, 1, 0] t)
      · refine w_iinc (v := nI (wnF (opv A.cf A.st.pos) i + 1)) dX6_winning_36 rfl (nI_inc _) (by decide) rfl ?_
        refine w_iinc (v := nI (i + 1)) dX6_winning_39 rfl (nI_inc _) (by decide) rfl ?_
        refine w_goto (tgt := 13) dX6_winning_42 (by decide) ?_
        first | (have t := ih (i + 1) I' (by omega) h1 h2 hr; rw [e, b2i_0.mp c_33] at t; exact w_lv [3, 2, 1, 0] t) | (have t := ih (i + 1) I' (by omega) h1 h2 hr; rw [e, b2i_ne.mp c_33] at t; exact w_lv [3, 2, 1, 0] t)
  refine w_aload_n dX6_winning_0 rfl ?_
  refine u_callV dX6_winning_1 lk_X6_186 [] rfl (c_solvePosition E l hl h hn5) (g_recv.obj (ci := 6) rfl (by decide) (show 0 < N by omega)) rfl ⟨⟨by decide, by decide⟩, by decide, by decide⟩ (lb rfl) (fun I' h_1 => ?_)
  obtain ⟨f1, hr⟩ := h_1
  refine w_aload_n dX6_winning_4 rfl ?_
  refine v_callV dX6_winning_5 lk_X6_121 [] rfl (c_listMovesR E l hl (h.rd f1 hr) hr) (g_recv.obj (ci := 6) rfl (by decide) (show 0 < N by omega)) rfl ⟨⟨by decide, by decide⟩, by decide, by decide⟩ (lb rfl) (fun x_5 I2 h_5 => ?_)
  obtain ⟨e1, e2, e3⟩ := h_5
  rw [e1]
  refine w_istore_n dX6_winning_8 (by decide) rfl ?_
  refine w_iconst (v := 0) dX6_winning_9 (by decide) ?_
  refine w_istore_n dX6_winning_10 (by decide) rfl ?_
  refine w_iconst (v := 0) dX6_winning_11 (by decide) ?_
  refine w_istore_n dX6_winning_12 (by decide) rfl ?_
  exact w_lv [3, 2, 1, 0] (loop (mvs A.cf A.st.pos).length 0 I2 (by omega) e2 (f1.trans e3.s) (hr.x e3))
end FG
