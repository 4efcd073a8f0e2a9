/-! HeapGamesModel: moves, the best one -/
theorem fd_at {L : List Mv} (hL : L.length ≤ 81) {s : St} {i : Nat} (hi : i < L.length) {y : Int32} {I' : Nat → Nat → Int32} (h : fdF (nI i) L s y I' ∨ fdN (nI i) L y I') : y = 1 ∧ mvH I' s L[i] := by
  rcases h with ⟨j, m, q1, q2, q3, q4⟩ | h
  · have hj : j < L.length := by
      rcases Nat.lt_or_ge j L.length with z | z
      · exact z
      · rw [List.getElem?_eq_none z] at q2; cases q2
    have e : i = j := n_eq q1
    subst e
    rw [List.getElem?_eq_getElem hi] at q2
    cases q2
    exact ⟨q3, q4⟩
  · exact absurd rfl (h.2.2 i hi)
theorem fd_off {L : List Mv} (hL : L.length ≤ 81) {s : St} {x : Int32} (hx : ∀ i, i < L.length → x ≠ nI i) {y : Int32} {I' : Nat → Nat → Int32} (h : fdF x L s y I' ∨ fdN x L y I') : y = 0 := by
  rcases h with ⟨j, m, q1, q2, q3, q4⟩ | h
  · have hj : j < L.length := by
      rcases Nat.lt_or_ge j L.length with z | z
      · exact z
      · rw [List.getElem?_eq_none z] at q2; cases q2
    exact absurd q1 (hx j hj)
  · exact h.1
theorem getElem_in {L : List Mv} {i : Nat} (hi : i < L.length) : L[i] ∈ L := List.getElem_mem hi
def bmC (w : Bool) (os : List Rs) (i b : Nat) : Bool := if w then decide ((os.getD b (false, 0, 0)).2.1 ≤ (os.getD i (false, 0, 0)).2.1) else decide ((os.getD i (false, 0, 0)).2.1 ≤ (os.getD b (false, 0, 0)).2.1)
def bmF (w : Bool) (os : List Rs) : Nat → Option Nat
  | 0 => none
  | i + 1 => if w && (os.getD i (false, 0, 0)).1 then bmF w os i else match bmF w os i with
    | none => some i
    | some b => if bmC w os i b then some b else some i
theorem bmF_lt {w : Bool} {os : List Rs} : ∀ {i b : Nat}, bmF w os i = some b → b < i
  | 0, b, h => by cases h
  | i + 1, b, h => by
    rw [bmF] at h
    split at h
    · have := bmF_lt h; omega
    · split at h
      · cases h; omega
      · rename_i c hc
        have := bmF_lt hc
        split at h <;> cases h <;> omega
theorem bm_all {os : List Rs} : ∀ i, (∀ j, j < i → (os.getD j (false, 0, 0)).1 = true) → bmF false os i = bsF os i
  | 0, _ => rfl
  | i + 1, h => by
    rw [bmF, bsF, bm_all i (fun j hj => h j (by omega)), if_neg (by simp)]
    cases hb : bsF os i with
    | none => rfl
    | some b =>
      have hlt := bsF_lt hb
      have e1 := h i (by omega)
      have e2 := h b (by omega)
      simp only []
      have e3 : btr (os.getD i (false, 0, 0)) (os.getD b (false, 0, 0)) = decide ((os.getD b (false, 0, 0)).2.1 < (os.getD i (false, 0, 0)).2.1) := by unfold btr; rw [e1, e2]; simp
      rw [e3, show bmC false os i b = decide ((os.getD i (false, 0, 0)).2.1 ≤ (os.getD b (false, 0, 0)).2.1) from rfl]
      by_cases hle : (os.getD i (false, 0, 0)).2.1 ≤ (os.getD b (false, 0, 0)).2.1
      · rw [decide_eq_true hle, if_pos rfl, decide_eq_false (by omega), if_neg (by decide)]
      · rw [decide_eq_false hle, if_neg (by decide), decide_eq_true (by omega), if_pos rfl]
theorem bm_won {os : List Rs} : ∀ i, (∃ j, j < i ∧ (os.getD j (false, 0, 0)).1 = false) → (∃ b, bmF true os i = some b ∧ bsF os i = some b ∧ (os.getD b (false, 0, 0)).1 = false) ∨ False
  | 0, h => by obtain ⟨j, hj, _⟩ := h; omega
  | i + 1, h => by
    left
    by_cases h0 : ∃ j, j < i ∧ (os.getD j (false, 0, 0)).1 = false
    · obtain ⟨b, b1, b2, b3⟩ := (bm_won i h0).resolve_right id
      rw [bmF, bsF, b1, b2]
      simp only [Bool.true_and]
      cases e1 : (os.getD i (false, 0, 0)).1 with
      | true =>
        refine ⟨b, if_pos rfl, ?_, b3⟩
        rw [if_neg]
        unfold btr; rw [e1, b3]; simp
      | false =>
        rw [if_neg (by decide), show bmC true os i b = decide ((os.getD b (false, 0, 0)).2.1 ≤ (os.getD i (false, 0, 0)).2.1) from rfl]
        have e3 : btr (os.getD i (false, 0, 0)) (os.getD b (false, 0, 0)) = decide ((os.getD i (false, 0, 0)).2.1 < (os.getD b (false, 0, 0)).2.1) := by unfold btr; rw [e1, b3]; simp
        rw [e3]
        by_cases hle : (os.getD b (false, 0, 0)).2.1 ≤ (os.getD i (false, 0, 0)).2.1
        · exact ⟨b, by rw [decide_eq_true hle, if_pos rfl], by rw [decide_eq_false (by omega), if_neg (by decide)], b3⟩
        · exact ⟨i, by rw [decide_eq_false hle, if_neg (by decide)], by rw [decide_eq_true (by omega), if_pos rfl], e1⟩
    · have hn : ∀ j, j < i → (os.getD j (false, 0, 0)).1 = true := fun j hj => by
        cases e : (os.getD j (false, 0, 0)).1 with
        | true => rfl
        | false => exact absurd ⟨j, hj, e⟩ h0
      obtain ⟨j, hj, ej⟩ := h
      have eji : j = i := by
        rcases Nat.lt_or_ge j i with z | z
        · rw [hn j z] at ej; cases ej
        · omega
      subst eji
      have b1 : ∀ i, i ≤ j → bmF true os i = none := by
        intro i
        induction i with
        | zero => intro _; rfl
        | succ i ih => intro hi; rw [bmF, hn i (by omega), ih (by omega)]; rfl
      refine ⟨j, ?_, ?_, ej⟩
      · rw [bmF, b1 j (Nat.le_refl _), ej]; rfl
      · rw [bsF]
        cases hb : bsF os j with
        | none => rfl
        | some b =>
          have := bsF_lt hb
          simp only []
          rw [if_pos]
          unfold btr
          rw [ej, hn b this]
          simp
theorem lostMin_some {os : List Rs} (h : ∀ x ∈ os, rsL x) : lostMin os < 64 ↔ ∃ x ∈ os, x.1 = false := by
  induction os using snoc_ind with
  | h0 => constructor
          · intro q; exact absurd q (by decide)
          · rintro ⟨x, hx, _⟩; exact absurd hx List.not_mem_nil
  | h1 l x ih =>
    have ih' := ih (fun y hy => h y (by simp [hy]))
    have hx := (h x (by simp)).1
    rw [lostMin_snoc]
    cases e : x.1 with
    | true =>
      rw [if_pos rfl, ih']
      constructor
      · rintro ⟨y, y1, y2⟩; exact ⟨y, by simp [y1], y2⟩
      · rintro ⟨y, y1, y2⟩
        rcases List.mem_append.mp y1 with z | z
        · exact ⟨y, z, y2⟩
        · rw [List.mem_singleton] at z; subst z; rw [e] at y2; cases y2
    | false =>
      rw [if_neg (by decide)]
      constructor
      · intro _; exact ⟨x, by simp, e⟩
      · intro _; omega
theorem bm_bs {c : Cf} (hm : c.m ≤ 4) {p : Nat} (hp : p < 262144) : bmF (val c p).1 (opv c p) (opv c p).length = bsF (opv c p) (opv c p).length := by
  have hL : ∀ x ∈ opv c p, rsL x := fun x hx => by have := opv_lt hm hp hx; exact ⟨by omega, by omega⟩
  have hv : val c p = comb c.mi (opv c p) := val_eq hm p
  by_cases he : opv c p = []
  · rw [he]; rfl
  · have hw : (val c p).1 = decide (lostMin (opv c p) < 64) := by rw [hv]; unfold comb; rw [if_neg he]
    rw [hw]
    by_cases h64 : lostMin (opv c p) < 64
    · rw [decide_eq_true h64]
      obtain ⟨x, hx, ex⟩ := (lostMin_some hL).mp h64
      obtain ⟨i, hi, rfl⟩ := List.getElem_of_mem hx
      obtain ⟨b, b1, b2, _⟩ := (bm_won (os := opv c p) (opv c p).length ⟨i, hi, by rw [List.getD_eq_getElem?_getD, List.getElem?_eq_getElem hi]; exact ex⟩).resolve_right id
      rw [b1, b2]
    · rw [decide_eq_false h64]
      refine bm_all _ (fun j hj => ?_)
      cases e : ((opv c p).getD j (false, 0, 0)).1 with
      | true => rfl
      | false =>
        exfalso
        apply h64
        rw [List.getD_eq_getElem?_getD, List.getElem?_eq_getElem hj] at e
        exact (lostMin_some hL).mpr ⟨_, List.getElem_mem hj, e⟩
section MR
variable (E : GE) (l : Launch)
variable {I : Nat → Nat → Int32} {J : Nat → Nat → Int64} {R : Nat → Nat → Option Nat} {D : Nat → Nat → UInt64} {N : Nat} {ex : Bool} {A : AS} {c : Nat}

set_option maxRecDepth 100000 in
theorem m_move_x1 (hR : lkM R N) (hA : aOK A) (h : rM I A c) {x : Int32} (hx : x < 0 ∨ ¬ x < nI (mvs A.cf A.st.pos).length) (w : Int32) : g_Ct E l mX7_move 5 117 0 0 [.ref 79, .int x, .int w] (I, J, R, D, N, ex) (g_ri (fun y I' => qP I A c 1 I') J R D N ex) := by
  refine g_Ct.of (by decide +kernel) (lb rfl) ?_
  have hN := hR.1
  have h9 := h.thr 0
  have z9 : up2 I 79 17 0 79 17 = 0 := up2_s ..
  have hlen : (mvs A.cf A.st.pos).length ≤ 81 := mvs_81 (cf_ok hA.2.1 (hA.2.2.1.rs hA.1)) _
  by_cases h0 : x < 0
  · refine w_aload_n dX7_move_0 rfl ?_
    refine w_iconst (v := 0) dX7_move_1 (by decide) ?_
    refine x_puti (ci := 7) (k := 17) dX7_move_2 rfl (by decide) (by decide) (by omega) fl_X7_73 rfl rfl ?_
    refine w_aload_n dX7_move_5 rfl ?_
    refine w_iload_n dX7_move_6 rfl ?_
    refine w_if_lt (tgt := 22) dX7_move_7 (by decide) (fun c_7 => ?_) (fun c_7 => absurd (h0) c_7)
    refine w_iconst (v := 0) dX7_move_22 (by decide) ?_
    refine w_iconst (v := 1) dX7_move_23 (by decide) ?_
    refine y_callV dX7_move_24 lk_X7_256 [.int 0, .int 1] rfl (m_may_f E l (by omega) z9 (by decide)) (g_recv.obj (ci := 7) rfl (by decide) (show 79 < N by omega)) rfl ⟨⟨by decide, by decide⟩, by decide, by decide⟩ (lb rfl) ?_
    refine w_if_eq (tgt := 45) dX7_move_27 (by decide) (fun c_27 => ?_) (fun c_27 => absurd (rfl) c_27)
    refine w_iconst (v := 0) dX7_move_45 (by decide) ?_
    refine w_iret dX7_move_46 rfl rfl ⟨_, _, rfl, qP.at1 h 1 0, rfl⟩ (by decide) (by decide)
  · have hn : ∀ i, i < (mvs A.cf A.st.pos).length → x ≠ nI i := fun i hi q => by rcases hx with y | y; exact h0 y; exact y (by rw [q]; exact nI_lt (by omega) (by omega))
    refine w_aload_n dX7_move_0 rfl ?_
    refine w_iconst (v := 0) dX7_move_1 (by decide) ?_
    refine x_puti (ci := 7) (k := 17) dX7_move_2 rfl (by decide) (by decide) (by omega) fl_X7_73 rfl rfl ?_
    refine w_aload_n dX7_move_5 rfl ?_
    refine w_iload_n dX7_move_6 rfl ?_
    refine w_if_lt (tgt := 22) dX7_move_7 (by decide) (fun c_7 => absurd c_7 (h0)) (fun c_7 => ?_)
    refine w_aload_n dX7_move_10 rfl ?_
    refine w_iload_n dX7_move_11 rfl ?_
    refine v_callV dX7_move_12 lk_X7_354 [.int x] rfl (m_finds E l hR hA h9 x) (g_recv.obj (ci := 7) rfl (by decide) (show 79 < N by omega)) rfl ⟨⟨by decide, by decide⟩, by decide, by decide⟩ (lb rfl) (fun x_12 I2 h_12 => ?_)
    obtain ⟨k1, k2⟩ := h_12
    have k3 := fd_off hlen hn k2
    have z2 : I2 79 17 = 0 := k1.o.2.trans z9
    refine w_if_eq (tgt := 22) dX7_move_15 (by decide) (fun c_15 => ?_) (fun c_15 => absurd (k3) c_15)
    refine w_iconst (v := 0) dX7_move_22 (by decide) ?_
    refine w_iconst (v := 1) dX7_move_23 (by decide) ?_
    refine y_callV dX7_move_24 lk_X7_256 [.int 0, .int 1] rfl (m_may_f E l (by omega) z2 (by decide)) (g_recv.obj (ci := 7) rfl (by decide) (show 79 < N by omega)) rfl ⟨⟨by decide, by decide⟩, by decide, by decide⟩ (lb rfl) ?_
    refine w_if_eq (tgt := 45) dX7_move_27 (by decide) (fun c_27 => ?_) (fun c_27 => absurd (rfl) c_27)
    refine w_iconst (v := 0) dX7_move_45 (by decide) ?_
    refine w_iret dX7_move_46 rfl rfl ⟨_, _, rfl, ⟨fun o ho => by rw [← show I2 o = I o from by rw [k1.1 o (by omega)]; funext j; exact up2_n _ _ (by omega)]; funext j; exact up2_n _ _ (by omega), up2_s .., ((h9.z k1).thr 1).up (Nat.le_succ c)⟩, rfl⟩ (by decide) (by decide)
set_option maxRecDepth 100000 in
theorem m_move_x2 (hR : lkM R N) (hA : aOK A) (h : rM I A c) {i : Nat} (hi : i < (mvs A.cf A.st.pos).length) {w : Int32} (hw : w < 0 ∨ ¬ w < nI 7) : g_Ct E l mX7_move 5 117 0 0 [.ref 79, .int (nI i), .int w] (I, J, R, D, N, ex) (g_ri (fun y I' => qP I A c 2 I') J R D N ex) := by
  refine g_Ct.of (by decide +kernel) (lb rfl) ?_
  have hN := hR.1
  have h9 := h.thr 0
  have z9 : up2 I 79 17 0 79 17 = 0 := up2_s ..
  have hlen : (mvs A.cf A.st.pos).length ≤ 81 := mvs_81 (cf_ok hA.2.1 (hA.2.2.1.rs hA.1)) _
  refine w_aload_n dX7_move_0 rfl ?_
  refine w_iconst (v := 0) dX7_move_1 (by decide) ?_
  refine x_puti (ci := 7) (k := 17) dX7_move_2 rfl (by decide) (by decide) (by omega) fl_X7_73 rfl rfl ?_
  refine w_aload_n dX7_move_5 rfl ?_
  refine w_iload_n dX7_move_6 rfl ?_
  refine w_if_lt (tgt := 22) dX7_move_7 (by decide) (fun c_7 => absurd c_7 ((nI_pos (by omega)))) (fun c_7 => ?_)
  refine w_aload_n dX7_move_10 rfl ?_
  refine w_iload_n dX7_move_11 rfl ?_
  refine v_callV dX7_move_12 lk_X7_354 [.int (nI i)] rfl (m_finds E l hR hA h9 (nI i)) (g_recv.obj (ci := 7) rfl (by decide) (show 79 < N by omega)) rfl ⟨⟨by decide, by decide⟩, by decide, by decide⟩ (lb rfl) (fun x_12 I2 h_12 => ?_)
  obtain ⟨k1, k2⟩ := h_12
  have k3 := fd_at hlen hi k2
  have z2 : I2 79 17 = 0 := k1.o.2.trans z9
  refine w_if_eq (tgt := 22) dX7_move_15 (by decide) (fun c_15 => absurd c_15 ((by rw [k3.1]; decide))) (fun c_15 => ?_)
  refine w_iconst (v := 1) dX7_move_18 (by decide) ?_
  refine w_goto (tgt := 23) dX7_move_19 (by decide) ?_
  refine w_iconst (v := 1) dX7_move_23 (by decide) ?_
  refine y_callV dX7_move_24 lk_X7_256 [.int 1, .int 1] rfl (m_may_t E l (by omega) z2 1) (g_recv.obj (ci := 7) rfl (by decide) (show 79 < N by omega)) rfl ⟨⟨by decide, by decide⟩, by decide, by decide⟩ (lb rfl) ?_
  refine w_if_eq (tgt := 45) dX7_move_27 (by decide) (fun c_27 => absurd c_27 ((by decide))) (fun c_27 => ?_)
  refine w_aload_n dX7_move_30 rfl ?_
  refine w_iload_n dX7_move_31 rfl ?_
  refine w_iconst (v := 0) dX7_move_32 (by decide) ?_
  refine w_bipush (v := 6) dX7_move_33 (by decide) ?_
  refine y_callS dX7_move_35 lk_X7_77 [.int w, .int 0, .int 6] rfl (m_within E l _ _ _ _) rfl ⟨⟨by decide, by decide⟩, by decide, by decide⟩ (lb rfl) ?_
  rw [decide_eq_false (show ¬ (¬ w < 0 ∧ ¬ (6 : Int32) < w) from wi_f (n := 7) (by omega) hw)]
  refine w_iconst (v := 2) dX7_move_38 (by decide) ?_
  refine y_callV dX7_move_39 lk_X7_256 [.int 0, .int 2] rfl (m_may_f E l (by omega) z2 (by decide)) (g_recv.obj (ci := 7) rfl (by decide) (show 79 < N by omega)) rfl ⟨⟨by decide, by decide⟩, by decide, by decide⟩ (lb rfl) ?_
  refine w_if_ne (tgt := 47) dX7_move_42 (by decide) (fun c_42 => absurd (rfl) c_42) (fun c_42 => ?_)
  refine w_iconst (v := 0) dX7_move_45 (by decide) ?_
  refine w_iret dX7_move_46 rfl rfl ⟨_, _, rfl, ⟨fun o ho => by rw [← show I2 o = I o from by rw [k1.1 o (by omega)]; funext j; exact up2_n _ _ (by omega)]; funext j; exact up2_n _ _ (by omega), up2_s .., ((h9.z k1).thr 2).up (Nat.le_succ c)⟩, rfl⟩ (by decide) (by decide)
set_option maxRecDepth 100000 in
theorem m_move (hR : lkM R N) (hA : aOK A) (h : rM I A c) (hc : c ≤ 1000) {i : Nat} (hi : i < (mvs A.cf A.st.pos).length) {w : Nat} (hw : w < 7) : g_Ct E l mX7_move 5 117 0 0 [.ref 79, .int (nI i), .int (nI w)] (I, J, R, D, N, ex) (g_ri (fun y I' => y = mvA A i w ∧ qP I A c 0 I') J R D N ex) := by
  refine g_Ct.of (by decide +kernel) (lb rfl) ?_
  have hN := hR.1
  have h9 := h.thr 0
  have z9 : up2 I 79 17 0 79 17 = 0 := up2_s ..
  have hlen : (mvs A.cf A.st.pos).length ≤ 81 := mvs_81 (cf_ok hA.2.1 (hA.2.2.1.rs hA.1)) _
  have hAA : ∀ w, mvA A i w = (match w with
    | 4 => nI (val A.cf (A.st.pos - ((mvs A.cf A.st.pos)[i]).code)).2.2
    | 5 => if (val A.cf (A.st.pos - ((mvs A.cf A.st.pos)[i]).code)).1 then 0 else 1
    | 6 => nI (val A.cf (A.st.pos - ((mvs A.cf A.st.pos)[i]).code)).2.1
    | w => deS (mvs A.cf A.st.pos)[i] w) := fun w => by unfold mvA; rw [List.getElem?_eq_getElem hi]; rfl
  refine w_aload_n dX7_move_0 rfl ?_
  refine w_iconst (v := 0) dX7_move_1 (by decide) ?_
  refine x_puti (ci := 7) (k := 17) dX7_move_2 rfl (by decide) (by decide) (by omega) fl_X7_73 rfl rfl ?_
  refine w_aload_n dX7_move_5 rfl ?_
  refine w_iload_n dX7_move_6 rfl ?_
  refine w_if_lt (tgt := 22) dX7_move_7 (by decide) (fun c_7 => absurd c_7 ((nI_pos (by omega)))) (fun c_7 => ?_)
  refine w_aload_n dX7_move_10 rfl ?_
  refine w_iload_n dX7_move_11 rfl ?_
  refine v_callV dX7_move_12 lk_X7_354 [.int (nI i)] rfl (m_finds E l hR hA h9 (nI i)) (g_recv.obj (ci := 7) rfl (by decide) (show 79 < N by omega)) rfl ⟨⟨by decide, by decide⟩, by decide, by decide⟩ (lb rfl) (fun x_12 I2 h_12 => ?_)
  obtain ⟨k1, k2⟩ := h_12
  have k3 := fd_at hlen hi k2
  have z2 : I2 79 17 = 0 := k1.o.2.trans z9
  refine w_if_eq (tgt := 22) dX7_move_15 (by decide) (fun c_15 => absurd c_15 ((by rw [k3.1]; decide))) (fun c_15 => ?_)
  refine w_iconst (v := 1) dX7_move_18 (by decide) ?_
  refine w_goto (tgt := 23) dX7_move_19 (by decide) ?_
  refine w_iconst (v := 1) dX7_move_23 (by decide) ?_
  refine y_callV dX7_move_24 lk_X7_256 [.int 1, .int 1] rfl (m_may_t E l (by omega) z2 1) (g_recv.obj (ci := 7) rfl (by decide) (show 79 < N by omega)) rfl ⟨⟨by decide, by decide⟩, by decide, by decide⟩ (lb rfl) ?_
  refine w_if_eq (tgt := 45) dX7_move_27 (by decide) (fun c_27 => absurd c_27 ((by decide))) (fun c_27 => ?_)
  refine w_aload_n dX7_move_30 rfl ?_
  refine w_iload_n dX7_move_31 rfl ?_
  refine w_iconst (v := 0) dX7_move_32 (by decide) ?_
  refine w_bipush (v := 6) dX7_move_33 (by decide) ?_
  refine y_callS dX7_move_35 lk_X7_77 [.int (nI w), .int 0, .int 6] rfl (m_within E l _ _ _ _) rfl ⟨⟨by decide, by decide⟩, by decide, by decide⟩ (lb rfl) ?_
  rw [decide_eq_true (show ¬ nI w < 0 ∧ ¬ (6 : Int32) < nI w from wi_t (n := 7) hw (by omega))]
  refine w_iconst (v := 2) dX7_move_38 (by decide) ?_
  refine y_callV dX7_move_39 lk_X7_256 [.int 1, .int 2] rfl (m_may_t E l (by omega) z2 2) (g_recv.obj (ci := 7) rfl (by decide) (show 79 < N by omega)) rfl ⟨⟨by decide, by decide⟩, by decide, by decide⟩ (lb rfl) ?_
  refine w_if_ne (tgt := 47) dX7_move_42 (by decide) (fun c_42 => ?_) (fun c_42 => absurd c_42 ((by decide)))
  refine w_aload_n dX7_move_47 rfl ?_
  refine u_callV dX7_move_48 lk_X7_357 [] rfl (m_laysA E l hR hA (h9.z k1) hc) (g_recv.obj (ci := 7) rfl (by decide) (show 79 < N by omega)) rfl ⟨⟨by decide, by decide⟩, by decide, by decide⟩ (lb rfl) (fun I3 h_48 => ?_)
  obtain ⟨g1, g2, g3⟩ := h_48
  obtain ⟨t1, t2, t3⟩ := tb_at hA g3 (getElem_in hi)
  obtain ⟨v1, v2, v3, v4, v5⟩ := k3.2
  have w1 : I3 79 44 = deS (mvs A.cf A.st.pos)[i] 0 := (g1.2 44 (by decide) (by decide)).trans v1
  have w2 : I3 79 45 = deS (mvs A.cf A.st.pos)[i] 1 := (g1.2 45 (by decide) (by decide)).trans v2
  have w3 : I3 79 46 = deS (mvs A.cf A.st.pos)[i] 2 := (g1.2 46 (by decide) (by decide)).trans v3
  have w4 : I3 79 47 = deS (mvs A.cf A.st.pos)[i] 3 := (g1.2 47 (by decide) (by decide)).trans v4
  have w5 := (g1.2 48 (by decide) (by decide)).trans v5
  have hq : qP I A c 0 I3 := qP.of (k1.o.trans g1.o) g2
  refine w_iload_n dX7_move_51 rfl ?_
  rcases (show w = 0 ∨ w = 1 ∨ w = 2 ∨ w = 3 ∨ w = 4 ∨ w = 5 ∨ w = 6 by omega) with rfl | rfl | rfl | rfl | rfl | rfl | rfl
  · refine w_tblIn (off := 40) (tgt := 92) dX7_move_52 (by decide) (by decide) (by decide) (by decide) ?_
    refine w_aload_n dX7_move_92 rfl ?_
    refine x_geti (ci := 7) (k := 44) dX7_move_93 rfl (by decide) (by decide) (by omega) fl_X7_329 rfl ?_
    refine w_iret dX7_move_96 rfl rfl ⟨_, _, rfl, ⟨by rw [w1]; exact (hAA 0).symm, hq⟩, rfl⟩ (by decide) (by decide)
  · refine w_tblIn (off := 45) (tgt := 97) dX7_move_52 (by decide) (by decide) (by decide) (by decide) ?_
    refine w_aload_n dX7_move_97 rfl ?_
    refine x_geti (ci := 7) (k := 45) dX7_move_98 rfl (by decide) (by decide) (by omega) fl_X7_332 rfl ?_
    refine w_iret dX7_move_101 rfl rfl ⟨_, _, rfl, ⟨by rw [w2]; exact (hAA 1).symm, hq⟩, rfl⟩ (by decide) (by decide)
  · refine w_tblIn (off := 50) (tgt := 102) dX7_move_52 (by decide) (by decide) (by decide) (by decide) ?_
    refine w_aload_n dX7_move_102 rfl ?_
    refine x_geti (ci := 7) (k := 46) dX7_move_103 rfl (by decide) (by decide) (by omega) fl_X7_335 rfl ?_
    refine w_iret dX7_move_106 rfl rfl ⟨_, _, rfl, ⟨by rw [w3]; exact (hAA 2).symm, hq⟩, rfl⟩ (by decide) (by decide)
  · refine w_tblIn (off := 55) (tgt := 107) dX7_move_52 (by decide) (by decide) (by decide) (by decide) ?_
    refine w_aload_n dX7_move_107 rfl ?_
    refine x_geti (ci := 7) (k := 47) dX7_move_108 rfl (by decide) (by decide) (by omega) fl_X7_338 rfl ?_
    refine w_iret dX7_move_111 rfl rfl ⟨_, _, rfl, ⟨by rw [w4]; exact (hAA 3).symm, hq⟩, rfl⟩ (by decide) (by decide)
  · refine w_tblIn (off := 60) (tgt := 112) dX7_move_52 (by decide) (by decide) (by decide) (by decide) ?_
    refine w_aload_n dX7_move_112 rfl ?_
    refine w_aload_n dX7_move_113 rfl ?_
    refine x_geti (ci := 7) (k := 48) dX7_move_114 rfl (by decide) (by decide) (by omega) fl_X7_344 rfl ?_
    rw [w5]
    refine y_callV dX7_move_117 lk_X7_295 [.int (nI (toA A.st (mvs A.cf A.st.pos)[i]))] rfl (m_valueAt E l hR t1 t2 t3) (g_recv.obj (ci := 7) rfl (by decide) (show 79 < N by omega)) rfl ⟨⟨by decide, by decide⟩, by decide, by decide⟩ (lb rfl) ?_
    refine w_iret dX7_move_120 rfl rfl ⟨_, _, rfl, ⟨(hAA 4).symm, hq⟩, rfl⟩ (by decide) (by decide)
  · refine w_tblIn (off := 69) (tgt := 121) dX7_move_52 (by decide) (by decide) (by decide) (by decide) ?_
    refine w_aload_n dX7_move_121 rfl ?_
    refine w_aload_n dX7_move_122 rfl ?_
    refine x_geti (ci := 7) (k := 48) dX7_move_123 rfl (by decide) (by decide) (by omega) fl_X7_344 rfl ?_
    rw [w5]
    refine y_callV dX7_move_126 lk_X7_301 [.int (nI (toA A.st (mvs A.cf A.st.pos)[i]))] rfl (m_isWonAt E l hR t1 t2 t3) (g_recv.obj (ci := 7) rfl (by decide) (show 79 < N by omega)) rfl ⟨⟨by decide, by decide⟩, by decide, by decide⟩ (lb rfl) ?_
    refine w_if_eq (tgt := 136) dX7_move_129 (by decide) (fun c_129 => ?_) (fun c_129 => ?_)
    · refine w_iconst (v := 1) dX7_move_136 (by decide) ?_
      refine w_iret dX7_move_137 rfl rfl (by first | exact ⟨_, _, rfl, ⟨by refine Eq.trans ?_ (hAA 5).symm; show _ = (if _ then _ else _); rw [b2i_0.mp c_129]; rfl, hq⟩, rfl⟩ | exact ⟨_, _, rfl, ⟨by refine Eq.trans ?_ (hAA 5).symm; show _ = (if _ then _ else _); rw [b2i_ne.mp c_129]; rfl, hq⟩, rfl⟩) (by decide) (by decide)
    · refine w_iconst (v := 0) dX7_move_132 (by decide) ?_
      refine w_goto (tgt := 137) dX7_move_133 (by decide) ?_
      refine w_iret dX7_move_137 rfl rfl (by first | exact ⟨_, _, rfl, ⟨by refine Eq.trans ?_ (hAA 5).symm; show _ = (if _ then _ else _); rw [b2i_0.mp c_129]; rfl, hq⟩, rfl⟩ | exact ⟨_, _, rfl, ⟨by refine Eq.trans ?_ (hAA 5).symm; show _ = (if _ then _ else _); rw [b2i_ne.mp c_129]; rfl, hq⟩, rfl⟩) (by decide) (by decide)
  · refine w_tblOut (tgt := 138) dX7_move_52 (by decide) (by decide) ?_
    refine w_aload_n dX7_move_138 rfl ?_
    refine w_aload_n dX7_move_139 rfl ?_
    refine x_geti (ci := 7) (k := 48) dX7_move_140 rfl (by decide) (by decide) (by omega) fl_X7_344 rfl ?_
    rw [w5]
    refine y_callV dX7_move_143 lk_X7_298 [.int (nI (toA A.st (mvs A.cf A.st.pos)[i]))] rfl (m_lengthAt E l hR t1 t2 t3) (g_recv.obj (ci := 7) rfl (by decide) (show 79 < N by omega)) rfl ⟨⟨by decide, by decide⟩, by decide, by decide⟩ (lb rfl) ?_
    refine w_iret dX7_move_146 rfl rfl ⟨_, _, rfl, ⟨(hAA 6).symm, hq⟩, rfl⟩ (by decide) (by decide)
set_option maxRecDepth 100000 in
theorem m_winning (hR : lkM R N) (hA : aOK A) (h : rM I A c) (hc : c ≤ 1000) : g_Ct E l mX7_winning 5 117 0 0 [.ref 79] (I, J, R, D, N, ex) (g_ri (fun y I' => y = nI (wnF (opv A.cf A.st.pos) (mvs A.cf A.st.pos).length) ∧ qP I A c 0 I') J R D N ex) := by
  refine g_Ct.of (by decide +kernel) (lb rfl) ?_
  have hN := hR.1
  have h9 := h.thr 0
  have z9 : up2 I 79 17 0 79 17 = 0 := up2_s ..
  have hlen : (mvs A.cf A.st.pos).length ≤ 81 := mvs_81 (cf_ok hA.2.1 (hA.2.2.1.rs hA.1)) _
  have loop : ∀ (f k : Nat) (I' : Nat → Nat → Int32), k + f = (mvs A.cf A.st.pos).length → qP I A c 0 I' → tbA I' A → g_Wp E l mX7_winning { frames := 5, cells := 0, slots := 0, locals := 117 } (g_Fin E (g_ri (fun y I' => y = nI (wnF (opv A.cf A.st.pos) (mvs A.cf A.st.pos).length) ∧ qP I A c 0 I') J R D N ex) 0 0) 0 0 13 [(2, .int (nI k)), (1, .int (nI (wnF (opv A.cf A.st.pos) k))), (0, .ref 79)] [] (I', J, R, D, N, ex) := by
    intro f
    induction f with
    | zero =>
      intro k I' hk g1 g2
      obtain rfl : k = (mvs A.cf A.st.pos).length := by omega
      refine w_aload_n dX7_winning_13 rfl ?_
      refine w_iload_n dX7_winning_14 rfl ?_
      refine v_callV dX7_winning_15 lk_X7_354 [.int (nI (mvs A.cf A.st.pos).length)] rfl (m_finds E l hR hA g1.2.2 (nI (mvs A.cf A.st.pos).length)) (g_recv.obj (ci := 7) rfl (by decide) (show 79 < N by omega)) rfl ⟨⟨by decide, by decide⟩, by decide, by decide⟩ (lb rfl) (fun x_15 I2 h_15 => ?_)
      obtain ⟨k1, k2⟩ := h_15
      have k3 := fd_off hlen (fun i hi q => by have := n_eq q; omega) k2
      refine w_if_eq (tgt := 46) dX7_winning_18 (by decide) (fun c_18 => ?_) (fun c_18 => absurd (k3) c_18)
      refine w_iload_n dX7_winning_46 rfl ?_
      refine w_iret dX7_winning_47 rfl rfl ⟨_, _, rfl, ⟨rfl, fun o ho => (k1.1 o (by omega)).trans (g1.1 o ho), k1.o.2.trans g1.2.1, g1.2.2.z k1⟩, rfl⟩ (by decide) (by decide)
    | succ f ih =>
      intro k I' hk g1 g2
      have hkl : k < (mvs A.cf A.st.pos).length := by omega
      have t9 := ih (k + 1)
      rw [wnF, opv_getD hkl] at t9
      refine w_aload_n dX7_winning_13 rfl ?_
      refine w_iload_n dX7_winning_14 rfl ?_
      refine v_callV dX7_winning_15 lk_X7_354 [.int (nI k)] rfl (m_finds E l hR hA g1.2.2 (nI k)) (g_recv.obj (ci := 7) rfl (by decide) (show 79 < N by omega)) rfl ⟨⟨by decide, by decide⟩, by decide, by decide⟩ (lb rfl) (fun x_15 I2 h_15 => ?_)
      obtain ⟨k1, k2⟩ := h_15
      have k3 := fd_at hlen hkl k2
      obtain ⟨t1, t2, t3⟩ := tb_at hA (g2.z k1) (getElem_in hkl)
      refine w_if_eq (tgt := 46) dX7_winning_18 (by decide) (fun c_18 => absurd c_18 ((by rw [k3.1]; decide))) (fun c_18 => ?_)
      refine w_iload_n dX7_winning_21 rfl ?_
      refine w_aload_n dX7_winning_22 rfl ?_
      refine w_aload_n dX7_winning_23 rfl ?_
      refine x_geti (ci := 7) (k := 48) dX7_winning_24 rfl (by decide) (by decide) (by omega) fl_X7_344 rfl ?_
      rw [k3.2.2.2.2.2]
      refine y_callV dX7_winning_27 lk_X7_301 [.int (nI (toA A.st (mvs A.cf A.st.pos)[k]))] rfl (m_isWonAt E l hR t1 t2 t3) (g_recv.obj (ci := 7) rfl (by decide) (show 79 < N by omega)) rfl ⟨⟨by decide, by decide⟩, by decide, by decide⟩ (lb rfl) ?_
      refine w_if_eq (tgt := 37) dX7_winning_30 (by decide) (fun c_30 => ?_) (fun c_30 => ?_)
      · refine w_iconst (v := 1) dX7_winning_37 (by decide) ?_
        refine w_iadd dX7_winning_38 ?_
        first | (rw [b2i_0.mp c_30] at t9; refine w_st (show _ = [.int (nI (wnF (opv A.cf A.st.pos) k + 1))] from by rw [← nI_1]) ?_) | (rw [b2i_ne.mp c_30] at t9; refine w_st (show _ = [.int (nI (wnF (opv A.cf A.st.pos) k + 0))] from by rw [← nI_add]; rfl) ?_)
        refine w_istore_n dX7_winning_39 (by decide) rfl ?_
        refine w_iinc (v := nI (k + 1)) dX7_winning_40 rfl (nI_inc _) (by decide) rfl ?_
        refine w_goto (tgt := 13) dX7_winning_43 (by decide) ?_
        exact w_lv [2, 1, 0] (t9 I2 (by omega) ⟨fun o ho => (k1.1 o (by omega)).trans (g1.1 o ho), k1.o.2.trans g1.2.1, g1.2.2.z k1⟩ (g2.z k1))
      · refine w_iconst (v := 0) dX7_winning_33 (by decide) ?_
        refine w_goto (tgt := 38) dX7_winning_34 (by decide) ?_
        refine w_iadd dX7_winning_38 ?_
        first | (rw [b2i_0.mp c_30] at t9; refine w_st (show _ = [.int (nI (wnF (opv A.cf A.st.pos) k + 1))] from by rw [← nI_1]) ?_) | (rw [b2i_ne.mp c_30] at t9; refine w_st (show _ = [.int (nI (wnF (opv A.cf A.st.pos) k + 0))] from by rw [← nI_add]; rfl) ?_)
        refine w_istore_n dX7_winning_39 (by decide) rfl ?_
        refine w_iinc (v := nI (k + 1)) dX7_winning_40 rfl (nI_inc _) (by decide) rfl ?_
        refine w_goto (tgt := 13) dX7_winning_43 (by decide) ?_
        exact w_lv [2, 1, 0] (t9 I2 (by omega) ⟨fun o ho => (k1.1 o (by omega)).trans (g1.1 o ho), k1.o.2.trans g1.2.1, g1.2.2.z k1⟩ (g2.z k1))
  refine w_aload_n dX7_winning_0 rfl ?_
  refine w_iconst (v := 0) dX7_winning_1 (by decide) ?_
  refine x_puti (ci := 7) (k := 17) dX7_winning_2 rfl (by decide) (by decide) (by omega) fl_X7_73 rfl rfl ?_
  refine w_aload_n dX7_winning_5 rfl ?_
  refine u_callV dX7_winning_6 lk_X7_357 [] rfl (m_laysA E l hR hA h9 hc) (g_recv.obj (ci := 7) rfl (by decide) (show 79 < N by omega)) rfl ⟨⟨by decide, by decide⟩, by decide, by decide⟩ (lb rfl) (fun I2 h_6 => ?_)
  obtain ⟨k1, k2, k3⟩ := h_6
  refine w_iconst (v := 0) dX7_winning_9 (by decide) ?_
  refine w_istore_n dX7_winning_10 (by decide) rfl ?_
  refine w_iconst (v := 0) dX7_winning_11 (by decide) ?_
  refine w_istore_n dX7_winning_12 (by decide) rfl ?_
  exact w_lv [2, 1, 0] (loop (mvs A.cf A.st.pos).length 0 I2 (by omega) (qP.of k1.o k2) k3)
end MR
