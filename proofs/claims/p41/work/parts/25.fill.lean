/-! HeapGames$Rule.fillValues; HeapGames$State -/
theorem hitV_0 (k : Nat) (S : Nat → Bool) (n v : Nat) : hitV k S n 0 v = false := rfl
theorem hitV_s (k : Nat) (S : Nat → Bool) (n j v : Nat) : hitV k S n (j + 1) v = (hitV k S n j v || (okA k S n (j + 1) && decide (gv k S (n - (j + 1)) = v))) := rfl
section RF
variable (E : GE) (l : Launch)
variable {I : Nat → Nat → Int32} {J : Nat → Nat → Int64} {R : Nat → Nat → Option Nat} {D : Nat → Nat → UInt64} {N : Nat} {ex : Bool} {r : Nat}
def lwOf (I : Nat → Nat → Int32) (r : Nat) (k : Nat) (S : Nat → Bool) (n j : Nat) : Prop := ∀ v, v ≤ 300 → (I (r + 2) v = nI n ↔ hitV k S n j v = true) ∧ (I (r + 2) v = -1 ∨ ∃ m, m ≤ n ∧ I (r + 2) v = nI m)
def fvOf (I0 I : Nat → Nat → Int32) (r : Nat) (k : Nat) (S : Nat → Bool) (n : Nat) : Prop := (∀ m, m < n → I (r + 1) m = nI (gv k S m)) ∧ ∀ o, o ≠ r + 1 → o ≠ r + 2 → ∀ j, I o j = I0 o j
theorem lwOf_next {I : Nat → Nat → Int32} {r k : Nat} {S : Nat → Bool} {n j : Nat} (hn : n < 300) (h : lwOf I r k S n j) : lwOf I r k S (n + 1) 0 := by
  intro v hv
  rw [hitV_0]
  obtain ⟨h1, h2⟩ := h v hv
  have hne : I (r + 2) v ≠ nI (n + 1) := by
    rcases h2 with h2 | ⟨m, hm, h2⟩
    · rw [h2]
      intro q
      have := congrArg Int32.toInt q
      rw [nI_toInt (by omega)] at this
      have e : (-1 : Int32).toInt = -1 := rfl
      rw [e] at this
      omega
    · rw [h2]
      intro q
      have := n_eq q
      omega
  refine ⟨⟨fun q => absurd q hne, fun q => by cases q⟩, ?_⟩
  rcases h2 with h2 | ⟨m, hm, h2⟩
  · exact Or.inl h2
  · exact Or.inr ⟨m, by omega, h2⟩
theorem lwOf_f {I : Nat → Nat → Int32} {r k : Nat} {S : Nat → Bool} {n j : Nat} (h : lwOf I r k S n j) (hf : okA k S n (j + 1) = false) : lwOf I r k S n (j + 1) := by
  intro v hv
  rw [hitV_s, hf]
  simpa using h v hv
theorem lwOf_t {I : Nat → Nat → Int32} {r k : Nat} {S : Nat → Bool} {n j : Nat} (h : lwOf I r k S n j) (ht : okA k S n (j + 1) = true) : lwOf (up2 I (r + 2) (gv k S (n - (j + 1))) (nI n)) r k S n (j + 1) := by
  intro v hv
  rw [hitV_s, ht]
  by_cases hg : v = gv k S (n - (j + 1))
  · subst hg
    rw [up2_s]
    refine ⟨?_, Or.inr ⟨n, Nat.le_refl _, rfl⟩⟩
    simp
  · rw [up2_n _ _ (by simp [hg])]
    have : decide (gv k S (n - (j + 1)) = v) = false := decide_eq_false (fun q => hg q.symm)
    rw [this]
    simpa using h v hv
theorem lwOf_gv {I : Nat → Nat → Int32} {r k : Nat} {S : Nat → Bool} {n : Nat} (h : lwOf I r k S n n) : firstN (fun v => decide (I (r + 2) v = nI n)) 301 0 = gv k S n := by
  rw [gv_eq]
  refine firstN_cong 301 0 (fun v _ hv => ?_)
  show decide (I (r + 2) v = nI n) = hitV k S n n v
  have h1 := (h v (by omega)).1
  by_cases q : hitV k S n n v = true
  · rw [q]; exact decide_eq_true (h1.mpr q)
  · rw [Bool.not_eq_true] at q
    rw [q]
    refine decide_eq_false (fun z => ?_)
    rw [h1.mp z] at q
    cases q
set_option maxRecDepth 100000 in
theorem c_fillValues (hr : isR R N r) {k : Nat} (hk : I r 1 = nI k) (hk4 : k ≤ 4) : g_Ct E l mX2_fillValues 2 43 0 0 [.ref r] (I, J, R, D, N, ex) (g_rv (fun I' => fvOf I I' r k (clS (J r 2)) 301) J R D N ex) := by
  refine g_Ct.of (by decide +kernel) (lb rfl) ?_
  have hN := hr.2.1
  have hrN : r < N := by omega
  generalize hS : clS (J r 2) = S
  have loop : ∀ (f n : Nat) (I' : Nat → Nat → Int32), n + f = 301 → fvOf I I' r k S n → (n < 301 → lwOf I' r k S n 0) → g_Wp E l mX2_fillValues { frames := 2, cells := 0, slots := 0, locals := 43 } (g_Fin E (g_rv (fun I' => fvOf I I' r k S 301) J R D N ex) 0 0) 0 0 10 [(1, .int (nI n)), (0, .ref r)] [] (I', J, R, D, N, ex) := by
    intro f
    induction f with
    | zero =>
      intro n I' hn hv _
      obtain rfl : n = 301 := by omega
      refine w_iload_n dX2_fillValues_10 rfl ?_
      refine w_sipush (v := 300) dX2_fillValues_11 (by decide) ?_
      refine w_icmp_gt (tgt := 68) dX2_fillValues_14 (by decide) (fun c_14 => ?_) (fun c_14 => absurd ((by decide)) c_14)
      refine w_vret dX2_fillValues_68 rfl ⟨_, rfl, hv, rfl⟩ (by decide) (by decide)
    | succ f ih =>
      intro n I' hn hv hw
      have hw0 := hw (by omega)
      have inner : ∀ (g j : Nat) (I' : Nat → Nat → Int32), j + g = n → fvOf I I' r k S n → lwOf I' r k S n j → g_Wp E l mX2_fillValues { frames := 2, cells := 0, slots := 0, locals := 43 } (g_Fin E (g_rv (fun I' => fvOf I I' r k S 301) J R D N ex) 0 0) 0 0 19 [(2, .int (nI (j + 1))), (1, .int (nI n)), (0, .ref r)] [] (I', J, R, D, N, ex) := by
        intro g
        induction g with
        | zero =>
          intro j I' hj hv hw
          obtain rfl : j = n := by omega
          refine w_iload_n dX2_fillValues_19 rfl ?_
          refine w_iload_n dX2_fillValues_20 rfl ?_
          refine w_icmp_gt (tgt := 51) dX2_fillValues_21 (by decide) (fun c_21 => ?_) (fun c_21 => absurd ((nI_lt (by omega) (by omega))) c_21)
          refine w_aload_n dX2_fillValues_51 rfl ?_
          refine x_getr (ci := 2) (k := 3) (a := r + 1) dX2_fillValues_52 hr.1 (by decide) (by decide) hrN fl_X2_9 (Or.inr ⟨_, rfl⟩) hr.2.2.2.2.1 ?_
          refine w_iload_n dX2_fillValues_55 rfl ?_
          refine w_aload_n dX2_fillValues_56 rfl ?_
          refine w_iload_n dX2_fillValues_57 rfl ?_
          refine y_callV dX2_fillValues_58 lk_X2_48 [.int (nI j)] rfl (c_leastWithout E l hr) (g_recv.obj (ci := 2) hr.1 (by decide) hrN) rfl ⟨⟨by decide, by decide⟩, by decide, by decide⟩ (lb rfl) ?_
          rw [lwOf_gv hw]
          refine x_iast (j := j) dX2_fillValues_61 (by rw [hr.2.2.1]) (by omega) rfl (by rw [hr.2.2.1]; show j < 301; omega) ?_
          refine w_iinc (v := nI (j + 1)) dX2_fillValues_62 rfl (nI_inc _) (by decide) rfl ?_
          refine w_goto (tgt := 10) dX2_fillValues_65 (by decide) ?_
          refine w_lv [1, 0] ?_
          refine ih (j + 1) _ (by omega) ⟨fun m hm => ?_, fun o h1 h2 i => ?_⟩ (fun h => ?_)
          · rcases Nat.lt_or_ge m j with q | q
            · rw [up2_n _ _ (by simp; omega)]; exact hv.1 m q
            · obtain rfl : m = j := by omega
              exact up2_s ..
          · rw [up2_n _ _ (by simp [h1])]; exact hv.2 o h1 h2 i
          · have h3 := lwOf_next (by omega) hw
            intro v hv
            have h4 := h3 v hv
            rw [up2_n _ _ (by simp)]
            exact h4
        | succ g ihg =>
          intro j I' hj hv hw
          have hk' : I' r 1 = nI k := by rw [hv.2 r (by omega) (by omega)]; exact hk
          refine w_iload_n dX2_fillValues_19 rfl ?_
          refine w_iload_n dX2_fillValues_20 rfl ?_
          refine w_icmp_gt (tgt := 51) dX2_fillValues_21 (by decide) (fun c_21 => absurd c_21 ((nI_nlt (by omega) (by omega)))) (fun c_21 => ?_)
          refine w_aload_n dX2_fillValues_24 rfl ?_
          refine w_iload_n dX2_fillValues_25 rfl ?_
          refine w_iload_n dX2_fillValues_26 rfl ?_
          refine y_callV dX2_fillValues_27 lk_X2_30 [.int (nI n), .int (nI (j + 1))] rfl (c_allows E l hr (by omega) hk' hk4 (nI (j + 1))) (g_recv.obj (ci := 2) hr.1 (by decide) hrN) rfl ⟨⟨by decide, by decide⟩, by decide, by decide⟩ (lb rfl) ?_
          rw [okI_nI (by omega) (by omega), hS]
          refine w_if_eq (tgt := 45) dX2_fillValues_30 (by decide) (fun c_30 => ?_) (fun c_30 => ?_)
          · refine w_iinc (v := nI (j + 1 + 1)) dX2_fillValues_45 rfl (nI_inc _) (by decide) rfl ?_
            refine w_goto (tgt := 19) dX2_fillValues_48 (by decide) ?_
            first
            | (refine w_lv [2, 1, 0] (ihg (j + 1) _ (by omega) hv ?_); exact lwOf_f hw (b2i_0.mp c_30))
            | (refine w_lv [2, 1, 0] (ihg (j + 1) _ (by omega) ⟨fun m hm => ?_, fun o h1 h2 i => ?_⟩ (lwOf_t hw (b2i_ne.mp c_30))); (rw [up2_n _ _ (by simp)]; exact hv.1 m hm); (rw [up2_n _ _ (by simp [h2])]; exact hv.2 o h1 h2 i))
          · refine w_aload_n dX2_fillValues_33 rfl ?_
            refine w_aload_n dX2_fillValues_34 rfl ?_
            refine w_iload_n dX2_fillValues_35 rfl ?_
            refine w_iload_n dX2_fillValues_36 rfl ?_
            refine w_isub dX2_fillValues_37 ?_
            refine w_st (show _ = [.int (nI (n - (j + 1))), .ref r, .ref r] from by rw [pk_sub (by omega)]) ?_
            refine y_callV dX2_fillValues_38 lk_X2_40 [.int (nI (n - (j + 1)))] rfl (c_valueOf E l hr (by omega)) (g_recv.obj (ci := 2) hr.1 (by decide) hrN) rfl ⟨⟨by decide, by decide⟩, by decide, by decide⟩ (lb rfl) ?_
            rw [hv.1 _ (by omega)]
            refine w_iload_n dX2_fillValues_41 rfl ?_
            refine z_callV dX2_fillValues_42 lk_X2_44 [.int (nI (gv k S (n - (j + 1)))), .int (nI n)] rfl (c_noteValue E l hr (by have := gv_le k S (n - (j + 1)); omega)) (g_recv.obj (ci := 2) hr.1 (by decide) hrN) rfl ⟨⟨by decide, by decide⟩, by decide, by decide⟩ (lb rfl) ?_
            refine w_iinc (v := nI (j + 1 + 1)) dX2_fillValues_45 rfl (nI_inc _) (by decide) rfl ?_
            refine w_goto (tgt := 19) dX2_fillValues_48 (by decide) ?_
            first
            | (refine w_lv [2, 1, 0] (ihg (j + 1) _ (by omega) hv ?_); exact lwOf_f hw (b2i_0.mp c_30))
            | (refine w_lv [2, 1, 0] (ihg (j + 1) _ (by omega) ⟨fun m hm => ?_, fun o h1 h2 i => ?_⟩ (lwOf_t hw (b2i_ne.mp c_30))); (rw [up2_n _ _ (by simp)]; exact hv.1 m hm); (rw [up2_n _ _ (by simp [h2])]; exact hv.2 o h1 h2 i))
      refine w_iload_n dX2_fillValues_10 rfl ?_
      refine w_sipush (v := 300) dX2_fillValues_11 (by decide) ?_
      refine w_icmp_gt (tgt := 68) dX2_fillValues_14 (by decide) (fun c_14 => absurd c_14 ((nI_nlt (a := 300) (by omega) (by omega)))) (fun c_14 => ?_)
      refine w_iconst (v := 1) dX2_fillValues_17 (by decide) ?_
      refine w_istore_n dX2_fillValues_18 (by decide) rfl ?_
      refine w_lv [2, 1, 0] (inner n 0 I' (by omega) hv hw0)
  refine w_aload_n dX2_fillValues_0 rfl ?_
  refine x_getr (ci := 2) (k := 4) (a := r + 2) dX2_fillValues_1 hr.1 (by decide) (by decide) hrN fl_X2_15 (Or.inr ⟨_, rfl⟩) hr.2.2.2.2.2 ?_
  refine w_iconst (v := (-1)) dX2_fillValues_4 (by decide) ?_
  refine z_callS dX2_fillValues_5 lk_X2_34 [.ref (r + 2), .int (-1)] rfl (c_fill E l hr.2.2.2.1 hN (-1)) rfl ⟨⟨by decide, by decide⟩, by decide, by decide⟩ (lb rfl) ?_
  refine w_iconst (v := 0) dX2_fillValues_8 (by decide) ?_
  refine w_istore_n dX2_fillValues_9 (by decide) rfl ?_
  refine w_lv [1, 0] (loop 301 0 _ (by omega) ⟨fun m hm => by omega, fun o h1 h2 j => if_neg (fun q => h2 q.1)⟩ (fun _ v hv => ?_))
  rw [hitV_0]
  rw [if_pos ⟨rfl, (by omega : v < 301)⟩]
  exact ⟨⟨fun q => (by cases q), fun q => (by cases q)⟩, Or.inl rfl⟩
end RF
