/-! HeapGames: changes, on -/
theorem rC.mono {I : Nat → Nat → Int32} {J : Nat → Nat → Int64} {sw : Bool} {A : AS} {n m : Nat} (h : rC I J sw A n) (hm : n ≤ m) : rC I J sw A m := by
  obtain ⟨h1, h2, h3, h4, h5, h6, h7, h8, h9⟩ := h
  exact ⟨h1, h2, h3, h4, h5, h6, h7, h8.mono hm, h9⟩
theorem hiC.fr {I I' : Nat → Nat → Int32} {nr : Nat} {hi : List St} (h : hiC I nr hi) (f : ∀ o, 51 ≤ o → o ≤ 72 → I' o = I o) : hiC I' nr hi := by
  obtain ⟨k1, k2, nx, k3, k4, k5⟩ := h
  exact ⟨k1, by rw [f 51 (by omega) (by omega)]; exact k2, nx, k3, by rw [f 51 (by omega) (by omega)]; exact k4, fun i hi => ⟨(k5 i hi).1, (k5 i hi).2.fr (f _ (by omega) (by omega)) (f _ (by omega) (by omega))⟩⟩
theorem rC.st {I I' : Nat → Nat → Int32} {J : Nat → Nat → Int64} {sw : Bool} {A : AS} {n : Nat} (h : rC I J sw A n) {s : St} (f : ∀ o, o ≠ gm sw + 2 → o ≠ gm sw + 3 → I' o = I o) (ho : stOK A.nr s) (hs : stC I' (gm sw + 2) s) : rC I' J sw (A.up s A.hi) n :=
  h.chg (fun o a b _ => f o a b) ho hs (h.2.2.2.2.2.2.2.2.1.fr (fun o a b => f o (by have := gm_b sw; omega) (by have := gm_b sw; omega)))
theorem set_zero {h a : Nat} (hh : h < 4) : setN 0 h a = a * 2 ^ (4 * h) := by
  rcases (show h = 0 ∨ h = 1 ∨ h = 2 ∨ h = 3 by omega) with rfl | rfl | rfl | rfl <;> simp [setN] <;> omega
theorem set_two {h o a : Nat} (hh : h < 4) (ho : o < 4) (hne : h ≠ o) (ha : a < 16) : setN (setN 0 h a) o a = a * (2 ^ (4 * min h o) + 2 ^ (4 * max h o)) := by
  rw [set_zero hh]
  rcases (show h = 0 ∨ h = 1 ∨ h = 2 ∨ h = 3 by omega) with rfl | rfl | rfl | rfl <;> rcases (show o = 0 ∨ o = 1 ∨ o = 2 ∨ o = 3 by omega) with rfl | rfl | rfl | rfl <;> first | exact absurd rfl hne | (simp [setN]; omega)
theorem mvOK.play {nr : Nat} {A : AS} (ho : stOK nr A.st) {m : Mv} (h : mvOK A.cf A.st.pos m) : playOK A.st m := by
  have hm : A.cf.m = A.st.hs.length := St.rs_len _
  have h4 := ho.1
  rcases m with ⟨k, a⟩ | ⟨k, o, a⟩ | ⟨⟩
  · obtain ⟨h1, h2, h3, _⟩ : k < A.cf.m ∧ 1 ≤ a ∧ a ≤ dig A.st.pos k ∧ A.cf.al k (dig A.st.pos k) a = true := h
    rw [ho.dig (by omega)] at h3
    exact ⟨(by omega : k < A.st.hs.length), h2, h3⟩
  · obtain ⟨h1, h2, h3, h5, h6, _⟩ : k < o ∧ o < A.cf.m ∧ 1 ≤ a ∧ a ≤ dig A.st.pos k ∧ a ≤ dig A.st.pos o ∧ A.cf.sh a = true := h
    rw [ho.dig (by omega)] at h5 h6
    exact ⟨h1, (by omega : o < A.st.hs.length), h3, h5, h6⟩
  · have h1 : 65536 ≤ A.st.pos := h
    have h2 := ho.pk
    show 1 ≤ A.st.ps
    unfold St.pos at h1
    omega
section FK
variable (E : GE) (l : Launch)
variable {I : Nat → Nat → Int32} {J : Nat → Nat → Int64} {R : Nat → Nat → Option Nat} {D : Nat → Nat → UInt64} {N : Nat} {ex : Bool} {sw : Bool} {A : AS} {n s : Nat}
set_option maxRecDepth 100000 in
theorem c_take_full (hl : lk R N sw) (h : rC I J sw A n) {k : Nat} (hk : k < A.st.hs.length) {a : Nat} (ha : okA (A.ru.1 (A.st.rl k)) (A.ru.2.1 (A.st.rl k)) (A.st.sz k) a = true) (hf : A.st.pl.length = 40) : g_Ct E l mX6_take 7 123 0 0 [.ref 0, .int (nI k), .int (nI a)] (I, J, R, D, N, ex) (g_is (some (.int (-1))) (I, J, R, D, N, ex)) := by
  refine g_Ct.of (by decide +kernel) (lb rfl) ?_
  have hN := hl.2.2.2.2.2.2.2.2.2.2.2.2.2.2.2.2
  have hg := hl.1
  have hgm := gm_b sw
  have hst := h.2.2.2.2.2.1
  have hok := h.2.2.2.2.1
  have h4 := hok.1
  have hnr := h.1.2
  have hrl := hok.rl hk
  have hsz := hok.sz k
  have hb' : s_bits (I (gm sw + 2) 1) (nI k) = nI (A.st.rl k) := by rw [hst.2.1]; exact hok.rbits hnr (show k < 4 by omega)
  have hr := (hg.2.2.2.2.2.2 (A.st.rl k) (by omega)).2
  have hrN : gm sw + 4 + 3 * A.st.rl k < N := by have := hr.2.1; omega
  obtain ⟨hK, hS⟩ := h.2.2.1.2 (A.st.rl k) (by omega)
  have hK4 := (h.2.1.1 (A.st.rl k) (by omega)).1
  have ha2 : 1 ≤ a ∧ a ≤ A.st.sz k := by unfold okA at ha; rw [Bool.and_eq_true] at ha; exact of_decide_eq_true ha.1
  refine w_aload_n dX6_take_0 rfl ?_
  refine w_iload_n dX6_take_1 rfl ?_
  refine z_callV dX6_take_2 lk_X6_171 [.int (nI k)] rfl (c_requireHeap E l hl h hk) (g_recv.obj (ci := 6) rfl (by decide) (show 0 < N by omega)) rfl ⟨⟨by decide, by decide⟩, by decide, by decide⟩ (lb rfl) ?_
  refine w_aload_n dX6_take_5 rfl ?_
  refine x_getr (ci := 6) (k := 0) (a := gm sw) dX6_take_6 rfl (by decide) (by decide) (by omega) fl_X6_12 (Or.inl ⟨_, rfl⟩) hl.2.2.2.2.1 ?_
  refine w_iload_n dX6_take_9 rfl ?_
  refine y_callV dX6_take_10 lk_X6_183 [.int (nI k)] rfl (c_ruleOfHeap E l hg hb' (by omega)) (g_recv.obj (ci := 0) hg.1 (by decide) (show gm sw < N by omega)) rfl ⟨⟨by decide, by decide⟩, by decide, by decide⟩ (lb rfl) ?_
  refine w_aload_n dX6_take_13 rfl ?_
  refine w_iload_n dX6_take_14 rfl ?_
  refine y_callV dX6_take_15 lk_X6_174 [.int (nI k)] rfl (c_countersOf E l hl h (show k < 4 by omega)) (g_recv.obj (ci := 6) rfl (by decide) (show 0 < N by omega)) rfl ⟨⟨by decide, by decide⟩, by decide, by decide⟩ (lb rfl) ?_
  refine w_iload_n dX6_take_18 rfl ?_
  refine y_callV dX6_take_19 lk_X6_136 [.int (nI (A.st.sz k)), .int (nI a)] rfl (c_allows E l hr (by omega) hK hK4 (nI a)) (g_recv.obj (ci := 2) hr.1 (by decide) hrN) rfl ⟨⟨by decide, by decide⟩, by decide, by decide⟩ (lb rfl) ?_
  rw [hS, okI_nI ha2.1 (by omega), ha]
  refine w_if_ne (tgt := 35) dX6_take_22 (by decide) (fun c_22 => ?_) (fun c_22 => absurd c_22 ((by decide)))
  refine w_aload_n dX6_take_35 rfl ?_
  refine y_callV dX6_take_36 lk_X6_238 [] rfl (c_isRecordFull E l hl h) (g_recv.obj (ci := 6) rfl (by decide) (show 0 < N by omega)) rfl ⟨⟨by decide, by decide⟩, by decide, by decide⟩ (lb rfl) ?_
  rw [decide_eq_true hf]
  refine w_if_eq (tgt := 44) dX6_take_39 (by decide) (fun c_39 => absurd c_39 ((by decide))) (fun c_39 => ?_)
  refine w_iconst (v := (-1)) dX6_take_42 (by decide) ?_
  refine w_iret dX6_take_43 rfl rfl ⟨rfl, rfl⟩ (by decide) (by decide)
set_option maxRecDepth 100000 in
theorem c_take (hl : lk R N sw) (h : rC I J sw A n) {k : Nat} (hk : k < A.st.hs.length) {a : Nat} (ha : okA (A.ru.1 (A.st.rl k)) (A.ru.2.1 (A.st.rl k)) (A.st.sz k) a = true) (hf : A.st.pl.length < 40) : g_Ct E l mX6_take 7 123 0 0 [.ref 0, .int (nI k), .int (nI a)] (I, J, R, D, N, ex) (g_ri (fun x I' => x = nI (A.st.sz k - a) ∧ frM I I' ∧ rC I' J sw (A.rec (A.st.play (Mv.take k a))) n) J R D N ex) := by
  refine g_Ct.of (by decide +kernel) (lb rfl) ?_
  have hN := hl.2.2.2.2.2.2.2.2.2.2.2.2.2.2.2.2
  have hg := hl.1
  have hgm := gm_b sw
  have hst := h.2.2.2.2.2.1
  have hok := h.2.2.2.2.1
  have h4 := hok.1
  have hnr := h.1.2
  have hrl := hok.rl hk
  have hsz := hok.sz k
  have hb' : s_bits (I (gm sw + 2) 1) (nI k) = nI (A.st.rl k) := by rw [hst.2.1]; exact hok.rbits hnr (show k < 4 by omega)
  have hr := (hg.2.2.2.2.2.2 (A.st.rl k) (by omega)).2
  have hrN : gm sw + 4 + 3 * A.st.rl k < N := by have := hr.2.1; omega
  obtain ⟨hK, hS⟩ := h.2.2.1.2 (A.st.rl k) (by omega)
  have hK4 := (h.2.1.1 (A.st.rl k) (by omega)).1
  have ha2 : 1 ≤ a ∧ a ≤ A.st.sz k := by unfold okA at ha; rw [Bool.and_eq_true] at ha; exact of_decide_eq_true ha.1
  have hpl : playOK A.st (Mv.take k a) := ⟨hk, ha2.1, ha2.2⟩
  refine w_aload_n dX6_take_0 rfl ?_
  refine w_iload_n dX6_take_1 rfl ?_
  refine z_callV dX6_take_2 lk_X6_171 [.int (nI k)] rfl (c_requireHeap E l hl h hk) (g_recv.obj (ci := 6) rfl (by decide) (show 0 < N by omega)) rfl ⟨⟨by decide, by decide⟩, by decide, by decide⟩ (lb rfl) ?_
  refine w_aload_n dX6_take_5 rfl ?_
  refine x_getr (ci := 6) (k := 0) (a := gm sw) dX6_take_6 rfl (by decide) (by decide) (by omega) fl_X6_12 (Or.inl ⟨_, rfl⟩) hl.2.2.2.2.1 ?_
  refine w_iload_n dX6_take_9 rfl ?_
  refine y_callV dX6_take_10 lk_X6_183 [.int (nI k)] rfl (c_ruleOfHeap E l hg hb' (by omega)) (g_recv.obj (ci := 0) hg.1 (by decide) (show gm sw < N by omega)) rfl ⟨⟨by decide, by decide⟩, by decide, by decide⟩ (lb rfl) ?_
  refine w_aload_n dX6_take_13 rfl ?_
  refine w_iload_n dX6_take_14 rfl ?_
  refine y_callV dX6_take_15 lk_X6_174 [.int (nI k)] rfl (c_countersOf E l hl h (show k < 4 by omega)) (g_recv.obj (ci := 6) rfl (by decide) (show 0 < N by omega)) rfl ⟨⟨by decide, by decide⟩, by decide, by decide⟩ (lb rfl) ?_
  refine w_iload_n dX6_take_18 rfl ?_
  refine y_callV dX6_take_19 lk_X6_136 [.int (nI (A.st.sz k)), .int (nI a)] rfl (c_allows E l hr (by omega) hK hK4 (nI a)) (g_recv.obj (ci := 2) hr.1 (by decide) hrN) rfl ⟨⟨by decide, by decide⟩, by decide, by decide⟩ (lb rfl) ?_
  rw [hS, okI_nI ha2.1 (by omega), ha]
  refine w_if_ne (tgt := 35) dX6_take_22 (by decide) (fun c_22 => ?_) (fun c_22 => absurd c_22 ((by decide)))
  refine w_aload_n dX6_take_35 rfl ?_
  refine y_callV dX6_take_36 lk_X6_238 [] rfl (c_isRecordFull E l hl h) (g_recv.obj (ci := 6) rfl (by decide) (show 0 < N by omega)) rfl ⟨⟨by decide, by decide⟩, by decide, by decide⟩ (lb rfl) ?_
  rw [decide_eq_false (show ¬ A.st.pl.length = 40 by omega)]
  refine w_if_eq (tgt := 44) dX6_take_39 (by decide) (fun c_39 => ?_) (fun c_39 => absurd ((by decide)) c_39)
  refine w_aload_n dX6_take_44 rfl ?_
  refine w_iconst (v := 0) dX6_take_45 (by decide) ?_
  refine w_iload_n dX6_take_46 rfl ?_
  refine w_iload_n dX6_take_47 rfl ?_
  refine y_callS dX6_take_48 lk_X6_216 [.int 0, .int (nI k), .int (nI a)] rfl (c_withBits E l _ _ _ _) rfl ⟨⟨by decide, by decide⟩, by decide, by decide⟩ (lb rfl) ?_
  rw [show s_with 0 (nI k) (nI a) = nI (Mv.take k a).code from (with_nI (x := 0) (by omega) (by omega)).trans (congrArg nI (set_zero (by omega)))]
  refine u_callV dX6_take_51 lk_X6_242 [.int (nI (Mv.take k a).code)] rfl (c_playMove E l hl h hpl hf) (g_recv.obj (ci := 6) rfl (by decide) (show 0 < N by omega)) rfl ⟨⟨by decide, by decide⟩, by decide, by decide⟩ (lb rfl) (fun I' h_51 => ?_)
  obtain ⟨f1, f2⟩ := h_51
  refine w_aload_n dX6_take_54 rfl ?_
  refine w_iload_n dX6_take_55 rfl ?_
  refine y_callV dX6_take_56 lk_X6_174 [.int (nI k)] rfl (c_countersOf E l hl f2 (show k < 4 by omega)) (g_recv.obj (ci := 6) rfl (by decide) (show 0 < N by omega)) rfl ⟨⟨by decide, by decide⟩, by decide, by decide⟩ (lb rfl) ?_
  refine w_iret dX6_take_59 rfl rfl ⟨_, _, rfl, ⟨by show nI ((A.st.put k (A.st.sz k - a)).sz k) = _; rw [put_sz _ hk, if_pos rfl], f1, f2⟩, rfl⟩ (by decide) (by decide)
set_option maxRecDepth 100000 in
theorem c_take_x1 (hl : lk R N sw) (h : rC I J sw A n) {x : Int32} (hx : x < 0 ∨ ¬ x < nI A.st.hs.length) (z : Int32) : g_Ct E l mX6_take 7 123 1 6 [.ref 0, .int x, .int z] (I, J, R, D, N, ex) (g_ths "java/lang/IndexOutOfBoundsException" (I, J, R, D, N, false)) := by
  refine g_Ct.of (by decide +kernel) (lb rfl) ?_
  have hN := hl.2.2.2.2.2.2.2.2.2.2.2.2.2.2.2.2
  refine w_aload_n dX6_take_0 rfl ?_
  refine w_iload_n dX6_take_1 rfl ?_
  refine t_callV dX6_take_2 lk_X6_171 [.int x] rfl (c_requireHeap_x E l hl h hx) (g_recv.obj (ci := 6) rfl (by decide) (show 0 < N by omega)) rfl ⟨⟨by decide, by decide⟩, by decide, by decide⟩ (lb rfl) (w_out rfl ⟨rfl, rfl⟩ (by decide) (by decide))
set_option maxRecDepth 100000 in
theorem c_take_x2 (hl : lk R N sw) (h : rC I J sw A n) {k : Nat} (hk : k < A.st.hs.length) {z : Int32} (hz : okI (A.ru.1 (A.st.rl k)) (A.ru.2.1 (A.st.rl k)) (A.st.sz k) z = false) : g_Ct E l mX6_take 7 123 1 6 [.ref 0, .int (nI k), .int z] (I, J, R, D, N, ex) (g_ths "java/lang/IllegalArgumentException" (I, J, R, D, N, false)) := by
  refine g_Ct.of (by decide +kernel) (lb rfl) ?_
  have hN := hl.2.2.2.2.2.2.2.2.2.2.2.2.2.2.2.2
  have hg := hl.1
  have hgm := gm_b sw
  have hst := h.2.2.2.2.2.1
  have hok := h.2.2.2.2.1
  have h4 := hok.1
  have hnr := h.1.2
  have hrl := hok.rl hk
  have hsz := hok.sz k
  have hb' : s_bits (I (gm sw + 2) 1) (nI k) = nI (A.st.rl k) := by rw [hst.2.1]; exact hok.rbits hnr (show k < 4 by omega)
  have hr := (hg.2.2.2.2.2.2 (A.st.rl k) (by omega)).2
  have hrN : gm sw + 4 + 3 * A.st.rl k < N := by have := hr.2.1; omega
  obtain ⟨hK, hS⟩ := h.2.2.1.2 (A.st.rl k) (by omega)
  have hK4 := (h.2.1.1 (A.st.rl k) (by omega)).1
  refine w_aload_n dX6_take_0 rfl ?_
  refine w_iload_n dX6_take_1 rfl ?_
  refine z_callV dX6_take_2 lk_X6_171 [.int (nI k)] rfl (c_requireHeap E l hl h hk) (g_recv.obj (ci := 6) rfl (by decide) (show 0 < N by omega)) rfl ⟨⟨by decide, by decide⟩, by decide, by decide⟩ (lb rfl) ?_
  refine w_aload_n dX6_take_5 rfl ?_
  refine x_getr (ci := 6) (k := 0) (a := gm sw) dX6_take_6 rfl (by decide) (by decide) (by omega) fl_X6_12 (Or.inl ⟨_, rfl⟩) hl.2.2.2.2.1 ?_
  refine w_iload_n dX6_take_9 rfl ?_
  refine y_callV dX6_take_10 lk_X6_183 [.int (nI k)] rfl (c_ruleOfHeap E l hg hb' (by omega)) (g_recv.obj (ci := 0) hg.1 (by decide) (show gm sw < N by omega)) rfl ⟨⟨by decide, by decide⟩, by decide, by decide⟩ (lb rfl) ?_
  refine w_aload_n dX6_take_13 rfl ?_
  refine w_iload_n dX6_take_14 rfl ?_
  refine y_callV dX6_take_15 lk_X6_174 [.int (nI k)] rfl (c_countersOf E l hl h (show k < 4 by omega)) (g_recv.obj (ci := 6) rfl (by decide) (show 0 < N by omega)) rfl ⟨⟨by decide, by decide⟩, by decide, by decide⟩ (lb rfl) ?_
  refine w_iload_n dX6_take_18 rfl ?_
  refine y_callV dX6_take_19 lk_X6_136 [.int (nI (A.st.sz k)), .int z] rfl (c_allows E l hr (by omega) hK hK4 z) (g_recv.obj (ci := 2) hr.1 (by decide) hrN) rfl ⟨⟨by decide, by decide⟩, by decide, by decide⟩ (lb rfl) ?_
  rw [hS, hz]
  refine w_if_ne (tgt := 35) dX6_take_22 (by decide) (fun c_22 => absurd (rfl) c_22) (fun c_22 => ?_)
  refine w_throw (X := "java/lang/IllegalArgumentException") (tx := "the rule does not allow the amount") rfl rfl (by decide +kernel) (by decide +kernel) dX6_take_25 dX6_take_28 dX6_take_29 dX6_take_31 dX6_take_34 (by decide) (lb rfl) (by decide) (by decide) (by decide) (by decide) ⟨rfl, rfl⟩
set_option maxRecDepth 100000 in
theorem c_play (hl : lk R N sw) (h : rC I J sw A n) (hn5 : n < 100000) {b : Nat} (hb : bsF (opv A.cf A.st.pos) (mvs A.cf A.st.pos).length = some b) (hbl : b < (mvs A.cf A.st.pos).length) (hf : A.st.pl.length < 40) : g_Ct E l mX6_play 6 142 0 0 [.ref 0] (I, J, R, D, N, ex) (g_ri (fun x I' => x = nI b ∧ frM I I' ∧ rC I' J sw (A.rec (A.st.play (mvs A.cf A.st.pos)[b])) (n + 1)) J R D N ex) := by
  refine g_Ct.of (by decide +kernel) (lb rfl) ?_
  have hN := hl.2.2.2.2.2.2.2.2.2.2.2.2.2.2.2.2
  have hg := hl.1
  have hv := hl.2.2.1
  have hgm := gm_b sw
  have hok := h.2.2.2.2.1
  have hc : A.cf.ok := cf_ok h.2.1 (hok.rs h.1.2)
  have h81 := mvs_81 hc A.st.pos
  have hOK := mem_mvs (List.getElem_mem hbl)
  have hwt := mv_wt hc.1 hOK
  have hpl := hOK.play hok
  have hpos := hok.pos
  have hne : ¬ nI b = -1 := by
    intro z
    have := o2i_none (o := some b) z (fun t ht => by cases ht; omega)
    cases this
  refine w_aload_n dX6_play_0 rfl ?_
  refine u_callV dX6_play_1 lk_X6_186 [] rfl (c_solvePosition E l hl h hn5) (g_recv.obj (ci := 6) rfl (by decide) (show 0 < N by omega)) rfl ⟨⟨by decide, by decide⟩, by decide, by decide⟩ (lb rfl) (fun I' h_1 => ?_)
  obtain ⟨f1, hr⟩ := h_1
  refine w_aload_n dX6_play_4 rfl ?_
  refine v_callV dX6_play_5 lk_X6_206 [] rfl (c_findBest E l hl (h.rd f1 hr) hr) (g_recv.obj (ci := 6) rfl (by decide) (show 0 < N by omega)) rfl ⟨⟨by decide, by decide⟩, by decide, by decide⟩ (lb rfl) (fun x_5 I2 h_5 => ?_)
  obtain ⟨e1, e2, e3⟩ := h_5
  rw [e1, hb]
  have hC := h.rd (f1.trans e3.s) (hr.x e3)
  refine w_istore_n dX6_play_8 (by decide) rfl ?_
  refine w_iload_n dX6_play_9 rfl ?_
  refine w_iconst (v := (-1)) dX6_play_10 (by decide) ?_
  refine w_icmp_ne (tgt := 25) dX6_play_11 (by decide) (fun c_11 => ?_) (fun c_11 => absurd c_11 (hne))
  refine w_aload_n dX6_play_25 rfl ?_
  refine y_callV dX6_play_26 lk_X6_238 [] rfl (c_isRecordFull E l hl hC) (g_recv.obj (ci := 6) rfl (by decide) (show 0 < N by omega)) rfl ⟨⟨by decide, by decide⟩, by decide, by decide⟩ (lb rfl) ?_
  rw [decide_eq_false (show ¬ A.st.pl.length = 40 by omega)]
  refine w_if_eq (tgt := 34) dX6_play_29 (by decide) (fun c_29 => ?_) (fun c_29 => absurd ((by decide)) c_29)
  refine w_aload_n dX6_play_34 rfl ?_
  refine w_aload_n dX6_play_35 rfl ?_
  refine x_getr (ci := 6) (k := 0) (a := gm sw) dX6_play_36 rfl (by decide) (by decide) (by omega) fl_X6_12 (Or.inl ⟨_, rfl⟩) hl.2.2.2.2.1 ?_
  refine x_getr (ci := 0) (k := 3) (a := gm sw + 2) dX6_play_39 hg.1 (by decide) (by decide) (by omega) fl_X6_85 (Or.inl ⟨_, rfl⟩) hg.2.2.2.2.1 ?_
  refine x_geti (ci := 4) (k := 2) dX6_play_42 hg.2.2.2.2.2.1.1 (by decide) (by decide) (by omega) fl_X6_92 rfl ?_
  rw [hC.2.2.2.2.2.1.2.2.1]
  refine w_aload_n dX6_play_45 rfl ?_
  refine x_getr (ci := 6) (k := 2) (a := 47) dX6_play_46 rfl (by decide) (by decide) (by omega) fl_X6_26 (Or.inl ⟨_, rfl⟩) hl.2.2.2.2.2.2.1 ?_
  refine w_iload_n dX6_play_49 rfl ?_
  refine y_callV dX6_play_50 lk_X6_200 [.int (nI b)] rfl (c_nextAt E l hv (by omega)) (g_recv.obj (ci := 3) rfl (by decide) (show 47 < N by omega)) rfl ⟨⟨by decide, by decide⟩, by decide, by decide⟩ (lb rfl) ?_
  rw [e2.2 b hbl]
  refine w_isub dX6_play_53 ?_
  rw [pk_sub (by omega), show A.st.pos - (A.st.pos - ((mvs A.cf A.st.pos)[b]).code) = ((mvs A.cf A.st.pos)[b]).code by omega]
  refine u_callV dX6_play_54 lk_X6_242 [.int (nI ((mvs A.cf A.st.pos)[b]).code)] rfl (c_playMove E l hl hC hpl hf) (g_recv.obj (ci := 6) rfl (by decide) (show 0 < N by omega)) rfl ⟨⟨by decide, by decide⟩, by decide, by decide⟩ (lb rfl) (fun I3 h_54 => ?_)
  obtain ⟨g1, g2⟩ := h_54
  refine w_iload_n dX6_play_57 rfl ?_
  refine w_iret dX6_play_58 rfl rfl ⟨_, _, rfl, ⟨rfl, (f1.trans e3.s).m.trans g1, g2⟩, rfl⟩ (by decide) (by decide)
set_option maxRecDepth 100000 in
theorem c_play_full (hl : lk R N sw) (h : rC I J sw A n) (hn5 : n < 100000) {b : Nat} (hb : bsF (opv A.cf A.st.pos) (mvs A.cf A.st.pos).length = some b) (hbl : b < (mvs A.cf A.st.pos).length) (hf : A.st.pl.length = 40) : g_Ct E l mX6_play 6 142 0 0 [.ref 0] (I, J, R, D, N, ex) (g_ri (fun x I' => x = -1 ∧ frM I I' ∧ rC I' J sw A (n + 1)) J R D N ex) := by
  refine g_Ct.of (by decide +kernel) (lb rfl) ?_
  have hN := hl.2.2.2.2.2.2.2.2.2.2.2.2.2.2.2.2
  have hok := h.2.2.2.2.1
  have hc : A.cf.ok := cf_ok h.2.1 (hok.rs h.1.2)
  have h81 := mvs_81 hc A.st.pos
  have hne : ¬ nI b = -1 := by
    intro z
    have := o2i_none (o := some b) z (fun t ht => by cases ht; omega)
    cases this
  refine w_aload_n dX6_play_0 rfl ?_
  refine u_callV dX6_play_1 lk_X6_186 [] rfl (c_solvePosition E l hl h hn5) (g_recv.obj (ci := 6) rfl (by decide) (show 0 < N by omega)) rfl ⟨⟨by decide, by decide⟩, by decide, by decide⟩ (lb rfl) (fun I' h_1 => ?_)
  obtain ⟨f1, hr⟩ := h_1
  refine w_aload_n dX6_play_4 rfl ?_
  refine v_callV dX6_play_5 lk_X6_206 [] rfl (c_findBest E l hl (h.rd f1 hr) hr) (g_recv.obj (ci := 6) rfl (by decide) (show 0 < N by omega)) rfl ⟨⟨by decide, by decide⟩, by decide, by decide⟩ (lb rfl) (fun x_5 I2 h_5 => ?_)
  obtain ⟨e1, e2, e3⟩ := h_5
  rw [e1, hb]
  have hC := h.rd (f1.trans e3.s) (hr.x e3)
  refine w_istore_n dX6_play_8 (by decide) rfl ?_
  refine w_iload_n dX6_play_9 rfl ?_
  refine w_iconst (v := (-1)) dX6_play_10 (by decide) ?_
  refine w_icmp_ne (tgt := 25) dX6_play_11 (by decide) (fun c_11 => ?_) (fun c_11 => absurd c_11 (hne))
  refine w_aload_n dX6_play_25 rfl ?_
  refine y_callV dX6_play_26 lk_X6_238 [] rfl (c_isRecordFull E l hl hC) (g_recv.obj (ci := 6) rfl (by decide) (show 0 < N by omega)) rfl ⟨⟨by decide, by decide⟩, by decide, by decide⟩ (lb rfl) ?_
  rw [decide_eq_true hf]
  refine w_if_eq (tgt := 34) dX6_play_29 (by decide) (fun c_29 => absurd c_29 ((by decide))) (fun c_29 => ?_)
  refine w_iconst (v := (-1)) dX6_play_32 (by decide) ?_
  refine w_iret dX6_play_33 rfl rfl ⟨_, _, rfl, ⟨rfl, (f1.trans e3.s).m, hC⟩, rfl⟩ (by decide) (by decide)
set_option maxRecDepth 100000 in
theorem c_play_x (hl : lk R N sw) (h : rC I J sw A n) (hn5 : n < 100000) (h0 : (mvs A.cf A.st.pos).length = 0) : g_Ct E l mX6_play 6 142 1 6 [.ref 0] (I, J, R, D, N, ex) (g_rx "java/lang/IllegalStateException" (fun I' => frM I I' ∧ rC I' J sw A (n + 1)) J R D N) := by
  refine g_Ct.of (by decide +kernel) (lb rfl) ?_
  have hN := hl.2.2.2.2.2.2.2.2.2.2.2.2.2.2.2.2
  refine w_aload_n dX6_play_0 rfl ?_
  refine u_callV dX6_play_1 lk_X6_186 [] rfl (c_solvePosition E l hl h hn5) (g_recv.obj (ci := 6) rfl (by decide) (show 0 < N by omega)) rfl ⟨⟨by decide, by decide⟩, by decide, by decide⟩ (lb rfl) (fun I' h_1 => ?_)
  obtain ⟨f1, hr⟩ := h_1
  refine w_aload_n dX6_play_4 rfl ?_
  refine v_callV dX6_play_5 lk_X6_206 [] rfl (c_findBest E l hl (h.rd f1 hr) hr) (g_recv.obj (ci := 6) rfl (by decide) (show 0 < N by omega)) rfl ⟨⟨by decide, by decide⟩, by decide, by decide⟩ (lb rfl) (fun x_5 I2 h_5 => ?_)
  obtain ⟨e1, e2, e3⟩ := h_5
  rw [e1, h0]
  have hC := h.rd (f1.trans e3.s) (hr.x e3)
  refine w_istore_n dX6_play_8 (by decide) rfl ?_
  refine w_iload_n dX6_play_9 rfl ?_
  refine w_iconst (v := (-1)) dX6_play_10 (by decide) ?_
  refine w_icmp_ne (tgt := 25) dX6_play_11 (by decide) (fun c_11 => absurd (rfl) c_11) (fun c_11 => ?_)
  refine w_throwW (X := "java/lang/IllegalStateException") (tx := "the position has no move") rfl rfl (by decide +kernel) (by decide +kernel) dX6_play_14 dX6_play_17 dX6_play_18 dX6_play_21 dX6_play_24 (by decide) (lb rfl) (by decide) (by decide) (by decide) (by decide) ⟨_, rfl, ⟨(f1.trans e3.s).m, hC⟩, rfl⟩
end FK
