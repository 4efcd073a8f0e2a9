/-! HeapGames: removeHeap, undo, snapshots -/
def St.nil : St := ([], 0, false, [])
section FN
variable (E : GE) (l : Launch)
variable {I : Nat → Nat → Int32} {J : Nat → Nat → Int64} {R : Nat → Nat → Option Nat} {D : Nat → Nat → UInt64} {N : Nat} {ex : Bool} {sw : Bool} {A : AS} {n s : Nat}
set_option maxRecDepth 100000 in
theorem c_addHeap_x1 (hl : lk R N sw) (h : rC I J sw A n) {x : Int32} (hx : x < 0 ∨ ¬ x < nI A.nr) (z : Int32) : g_Ct E l mX6_addHeap 7 111 1 6 [.ref 0, .int x, .int z] (I, J, R, D, N, ex) (g_ths "java/lang/IndexOutOfBoundsException" (I, J, R, D, N, false)) := by
  refine g_Ct.of (by decide +kernel) (lb rfl) ?_
  have hN := hl.2.2.2.2.2.2.2.2.2.2.2.2.2.2.2.2
  refine w_aload_n dX6_addHeap_0 rfl ?_
  refine w_iload_n dX6_addHeap_1 rfl ?_
  refine t_callV dX6_addHeap_2 lk_X6_124 [.int x] rfl (c_requireRule_x E l hl h hx) (g_recv.obj (ci := 6) rfl (by decide) (show 0 < N by omega)) rfl ⟨⟨by decide, by decide⟩, by decide, by decide⟩ (lb rfl) (w_out rfl ⟨rfl, rfl⟩ (by decide) (by decide))
set_option maxRecDepth 100000 in
theorem c_addHeap_x2 (hl : lk R N sw) (h : rC I J sw A n) {r : Nat} (hr : r < A.nr) {z : Int32} (hz : z < 0 ∨ ¬ z < nI 16) : g_Ct E l mX6_addHeap 7 111 1 6 [.ref 0, .int (nI r), .int z] (I, J, R, D, N, ex) (g_ths "java/lang/IllegalArgumentException" (I, J, R, D, N, false)) := by
  refine g_Ct.of (by decide +kernel) (lb rfl) ?_
  have hN := hl.2.2.2.2.2.2.2.2.2.2.2.2.2.2.2.2
  refine w_aload_n dX6_addHeap_0 rfl ?_
  refine w_iload_n dX6_addHeap_1 rfl ?_
  refine y_callV dX6_addHeap_2 lk_X6_124 [.int (nI r)] rfl (c_requireRule E l hl h hr) (g_recv.obj (ci := 6) rfl (by decide) (show 0 < N by omega)) rfl ⟨⟨by decide, by decide⟩, by decide, by decide⟩ (lb rfl) ?_
  refine w_pop dX6_addHeap_5 rfl ?_
  refine w_iload_n dX6_addHeap_6 rfl ?_
  refine t_callS dX6_addHeap_7 lk_X6_262 [.int z] rfl (c_requireSize_x E l hz) rfl ⟨⟨by decide, by decide⟩, by decide, by decide⟩ (lb rfl) (w_out rfl ⟨rfl, rfl⟩ (by decide) (by decide))
set_option maxRecDepth 100000 in
theorem c_addHeap_x3 (hl : lk R N sw) (h : rC I J sw A n) {r z : Nat} (hr : r < A.nr) (hz : z < 16) (hs : A.st.hs.length = 4) : g_Ct E l mX6_addHeap 7 111 1 6 [.ref 0, .int (nI r), .int (nI z)] (I, J, R, D, N, ex) (g_ths "java/lang/IllegalStateException" (I, J, R, D, N, false)) := by
  refine g_Ct.of (by decide +kernel) (lb rfl) ?_
  have hN := hl.2.2.2.2.2.2.2.2.2.2.2.2.2.2.2.2
  have hg := hl.1
  have hgm := gm_b sw
  refine w_aload_n dX6_addHeap_0 rfl ?_
  refine w_iload_n dX6_addHeap_1 rfl ?_
  refine y_callV dX6_addHeap_2 lk_X6_124 [.int (nI r)] rfl (c_requireRule E l hl h hr) (g_recv.obj (ci := 6) rfl (by decide) (show 0 < N by omega)) rfl ⟨⟨by decide, by decide⟩, by decide, by decide⟩ (lb rfl) ?_
  refine w_pop dX6_addHeap_5 rfl ?_
  refine w_iload_n dX6_addHeap_6 rfl ?_
  refine z_callS dX6_addHeap_7 lk_X6_262 [.int (nI z)] rfl (c_requireSize E l _ hz) rfl ⟨⟨by decide, by decide⟩, by decide, by decide⟩ (lb rfl) ?_
  refine w_aload_n dX6_addHeap_10 rfl ?_
  refine x_getr (ci := 6) (k := 0) (a := gm sw) dX6_addHeap_11 rfl (by decide) (by decide) (by omega) fl_X6_12 (Or.inl ⟨_, rfl⟩) hl.2.2.2.2.1 ?_
  refine x_getr (ci := 0) (k := 3) (a := gm sw + 2) dX6_addHeap_14 hg.1 (by decide) (by decide) (by omega) fl_X6_85 (Or.inl ⟨_, rfl⟩) hg.2.2.2.2.1 ?_
  refine x_geti (ci := 4) (k := 0) dX6_addHeap_17 hg.2.2.2.2.2.1.1 (by decide) (by decide) (by omega) fl_X6_89 rfl ?_
  rw [h.2.2.2.2.2.1.1, hs]
  refine w_iconst (v := 4) dX6_addHeap_20 (by decide) ?_
  refine w_icmp_lt (tgt := 35) dX6_addHeap_21 (by decide) (fun c_21 => absurd c_21 ((by decide))) (fun c_21 => ?_)
  refine w_throwW (X := "java/lang/IllegalStateException") (tx := "there are 4 heaps") rfl rfl (by decide +kernel) (by decide +kernel) dX6_addHeap_24 dX6_addHeap_27 dX6_addHeap_28 dX6_addHeap_31 dX6_addHeap_34 (by decide) (lb rfl) (by decide) (by decide) (by decide) (by decide) ⟨rfl, rfl⟩
set_option maxRecDepth 100000 in
theorem c_removeHeap (hl : lk R N sw) (h : rC I J sw A n) {k : Nat} (hk : k < A.st.hs.length) : g_Ct E l mX6_removeHeap 7 111 0 0 [.ref 0, .int (nI k)] (I, J, R, D, N, ex) (g_ri (fun x I' => x = nI (A.st.hs.length - 1) ∧ frM I I' ∧ rC I' J sw (A.rec (A.st.del k)) n) J R D N ex) := by
  refine g_Ct.of (by decide +kernel) (lb rfl) ?_
  have hN := hl.2.2.2.2.2.2.2.2.2.2.2.2.2.2.2.2
  have hg := hl.1
  have hgm := gm_b sw
  have hok := h.2.2.2.2.1
  have hnr := h.1.2
  have hrs := hok.rs hnr
  have h4 := hok.1
  have e1 : s_without (nI (pk4 A.st.rs)) (nI k) = nI (pk4 (A.st.rs.eraseIdx k)) := by
    rw [without_nI (by omega)]
    have := pk4_cut (p := 0) hrs.lt (show k < A.st.rs.length by rw [St.rs_len]; exact hk) hrs.1
    exact congrArg nI this
  have e2 : s_without (nI A.st.pos) (nI k) = nI (pk4 (A.st.zs.eraseIdx k) + 2 ^ 16 * A.st.ps) := by
    rw [without_nI (by omega)]
    exact congrArg nI (pk4_cut (p := A.st.ps) hok.zs (show k < A.st.zs.length by rw [St.zs_len]; exact hk) hok.zl)
  have hlen : (A.st.del k).hs.length = A.st.hs.length - 1 := List.length_eraseIdx_of_lt hk
  have hok2 : stOK A.nr (A.st.del k) := ⟨by rw [hlen]; omega, fun x hx => hok.2.1 x (List.mem_of_mem_eraseIdx hx), hok.2.2⟩
  refine w_aload_n dX6_removeHeap_0 rfl ?_
  refine w_iload_n dX6_removeHeap_1 rfl ?_
  refine z_callV dX6_removeHeap_2 lk_X6_171 [.int (nI k)] rfl (c_requireHeap E l hl h hk) (g_recv.obj (ci := 6) rfl (by decide) (show 0 < N by omega)) rfl ⟨⟨by decide, by decide⟩, by decide, by decide⟩ (lb rfl) ?_
  refine w_aload_n dX6_removeHeap_5 rfl ?_
  refine x_getr (ci := 6) (k := 3) (a := 51) dX6_removeHeap_6 rfl (by decide) (by decide) (by omega) fl_X6_33 (Or.inl ⟨_, rfl⟩) hl.2.2.2.2.2.2.2.1 ?_
  refine w_aload_n dX6_removeHeap_9 rfl ?_
  refine x_getr (ci := 6) (k := 0) (a := gm sw) dX6_removeHeap_10 rfl (by decide) (by decide) (by omega) fl_X6_12 (Or.inl ⟨_, rfl⟩) hl.2.2.2.2.1 ?_
  refine x_getr (ci := 0) (k := 3) (a := gm sw + 2) dX6_removeHeap_13 hg.1 (by decide) (by decide) (by omega) fl_X6_85 (Or.inl ⟨_, rfl⟩) hg.2.2.2.2.1 ?_
  refine u_callV dX6_removeHeap_16 lk_X6_265 [.ref (gm sw + 2)] rfl (c_rem E l hl h) (g_recv.obj (ci := 1) rfl (by decide) (show 51 < N by omega)) rfl ⟨⟨by decide, by decide⟩, by decide, by decide⟩ (lb rfl) (fun I' h_16 => ?_)
  obtain ⟨f1, f2⟩ := h_16
  have hC := h.rec f1 f2
  have hst := hC.2.2.2.2.2.1
  have hst1 : I' (gm sw + 2) 1 = nI (pk4 A.st.rs) := hst.2.1
  have hst2 : I' (gm sw + 2) 2 = nI A.st.pos := hst.2.2.1
  refine w_aload_n dX6_removeHeap_19 rfl ?_
  refine x_getr (ci := 6) (k := 0) (a := gm sw) dX6_removeHeap_20 rfl (by decide) (by decide) (by omega) fl_X6_12 (Or.inl ⟨_, rfl⟩) hl.2.2.2.2.1 ?_
  refine x_getr (ci := 0) (k := 3) (a := gm sw + 2) dX6_removeHeap_23 hg.1 (by decide) (by decide) (by omega) fl_X6_85 (Or.inl ⟨_, rfl⟩) hg.2.2.2.2.1 ?_
  refine w_iload_n dX6_removeHeap_26 rfl ?_
  refine u_callV dX6_removeHeap_27 lk_X6_276 [.int (nI k)] rfl (c_dropHeap E l hg.2.2.2.2.2.1 (h := A.st.hs.length - 1) (by have e : I' (gm sw + 2) 0 = nI A.st.hs.length := hst.1; rw [e, show A.st.hs.length - 1 + 1 = A.st.hs.length by omega]) (nI k)) (g_recv.obj (ci := 4) hg.2.2.2.2.2.1.1 (by decide) (show gm sw + 2 < N by omega)) rfl ⟨⟨by decide, by decide⟩, by decide, by decide⟩ (lb rfl) (fun I2 h_27 => ?_)
  obtain ⟨g1, g2, g3, g4, g5, g6⟩ := h_27
  refine w_aload_n dX6_removeHeap_30 rfl ?_
  refine x_getr (ci := 6) (k := 0) (a := gm sw) dX6_removeHeap_31 rfl (by decide) (by decide) (by omega) fl_X6_12 (Or.inl ⟨_, rfl⟩) hl.2.2.2.2.1 ?_
  refine x_getr (ci := 0) (k := 3) (a := gm sw + 2) dX6_removeHeap_34 hg.1 (by decide) (by decide) (by omega) fl_X6_85 (Or.inl ⟨_, rfl⟩) hg.2.2.2.2.1 ?_
  refine x_geti (ci := 4) (k := 0) dX6_removeHeap_37 hg.2.2.2.2.2.1.1 (by decide) (by decide) (by omega) fl_X6_89 rfl ?_
  refine w_iret dX6_removeHeap_40 rfl rfl ⟨_, _, rfl, ⟨g2, f1.m.trans (fun o ho => g1 o (by omega)), hC.st (s := A.st.del k) (fun o p1 p2 => g1 o p1) hok2 ⟨by rw [g2, hlen], by rw [g3, hst1, e1]; exact congrArg (fun x => nI (pk4 x)) (er_rs A.st k).symm, by rw [g4, hst2, e2]; show _ = nI (pk4 (St.zs (A.st.hs.eraseIdx k, A.st.ps, A.st.mi, A.st.pl)) + 2 ^ 16 * A.st.ps); rw [er_zs], by rw [g5]; exact hst.2.2.2.1, by rw [g6]; exact hst.2.2.2.2.1, fun i hi => by rw [g1 _ (by omega)]; exact hst.2.2.2.2.2 i hi⟩⟩, rfl⟩ (by decide) (by decide)
set_option maxRecDepth 100000 in
theorem c_removeHeap_x (hl : lk R N sw) (h : rC I J sw A n) {x : Int32} (hx : x < 0 ∨ ¬ x < nI A.st.hs.length) : g_Ct E l mX6_removeHeap 7 111 1 6 [.ref 0, .int x] (I, J, R, D, N, ex) (g_ths "java/lang/IndexOutOfBoundsException" (I, J, R, D, N, false)) := by
  refine g_Ct.of (by decide +kernel) (lb rfl) ?_
  have hN := hl.2.2.2.2.2.2.2.2.2.2.2.2.2.2.2.2
  refine w_aload_n dX6_removeHeap_0 rfl ?_
  refine w_iload_n dX6_removeHeap_1 rfl ?_
  refine t_callV dX6_removeHeap_2 lk_X6_171 [.int x] rfl (c_requireHeap_x E l hl h hx) (g_recv.obj (ci := 6) rfl (by decide) (show 0 < N by omega)) rfl ⟨⟨by decide, by decide⟩, by decide, by decide⟩ (lb rfl) (w_out rfl ⟨rfl, rfl⟩ (by decide) (by decide))
set_option maxRecDepth 100000 in
theorem c_goBack (hl : lk R N sw) (h : rC I J sw A n) {x : St} {hi : List St} (hh : A.hi = x :: hi) : g_Ct E l mX1_goBack 2 81 0 0 [.ref 51, .ref (gm sw + 2)] (I, J, R, D, N, ex) (g_rv (fun I' => I' 51 2 = nI hi.length ∧ frM I I' ∧ rC I' J sw (A.up x hi) n) J R D N ex) := by
  refine g_Ct.of (by decide +kernel) (lb rfl) ?_
  have hN := hl.2.2.2.2.2.2.2.2.2.2.2.2.2.2.2.2
  have hg := hl.1
  have hgm := gm_b sw
  have hH := hl.2.2.2.1
  obtain ⟨k1, k2, nx, k3, k4, k5⟩ := h.2.2.2.2.2.2.2.2.1
  rw [hh] at k1 k2 k5
  have hx0 := k5 0 (by rw [List.length_cons]; omega)
  have hn9 : (nx + 9) % 10 < 10 := Nat.mod_lt _ (by decide)
  have hd := (hH.2.2 ((nx + 9) % 10) hn9).2
  have hx0' : stC I (53 + 2 * ((nx + 9) % 10)) x := hx0.2
  refine w_aload_n dX1_goBack_0 rfl ?_
  refine w_aload_n dX1_goBack_1 rfl ?_
  refine x_geti (ci := 1) (k := 1) dX1_goBack_2 rfl (by decide) (by decide) (by omega) fl_X1_17 rfl ?_
  rw [k4]
  refine w_bipush (v := 10) dX1_goBack_5 (by decide) ?_
  refine w_iadd dX1_goBack_7 ?_
  refine w_iconst (v := 1) dX1_goBack_8 (by decide) ?_
  refine w_isub dX1_goBack_9 ?_
  rw [show nI nx + 10 - 1 = nI (nx + 9) by rw [show (10 : Int32) = nI 10 from rfl, nI_add, show nx + 10 = nx + 9 + 1 from rfl, nI_pred]]
  refine w_bipush (v := 10) dX1_goBack_10 (by decide) ?_
  refine w_irem dX1_goBack_12 (by decide) ?_
  rw [show (10 : Int32) = nI 10 from rfl, pk_rem (by omega) (by omega) (by omega)]
  refine x_puti (ci := 1) (k := 1) dX1_goBack_13 rfl (by decide) (by decide) (by omega) fl_X1_17 rfl rfl ?_
  refine w_aload_n dX1_goBack_16 rfl ?_
  refine w_dup dX1_goBack_17 rfl ?_
  refine x_geti (ci := 1) (k := 2) dX1_goBack_18 rfl (by decide) (by decide) (by omega) fl_X1_21 rfl ?_
  refine w_st (show _ = [.int (nI (hi.length + 1)), .ref 51] from by rw [up2_n _ _ (by simp), k2]; rfl) ?_
  refine w_iconst (v := 1) dX1_goBack_21 (by decide) ?_
  refine w_isub dX1_goBack_22 ?_
  rw [nI_pred]
  refine x_puti (ci := 1) (k := 2) dX1_goBack_23 rfl (by decide) (by decide) (by omega) fl_X1_21 rfl rfl ?_
  refine w_aload_n dX1_goBack_26 rfl ?_
  refine w_aload_n dX1_goBack_27 rfl ?_
  refine w_aload_n dX1_goBack_28 rfl ?_
  refine x_geti (ci := 1) (k := 1) dX1_goBack_29 rfl (by decide) (by decide) (by omega) fl_X1_17 rfl ?_
  refine w_st (show _ = [.int (nI ((nx + 9) % 10)), .ref 51, .ref (gm sw + 2)] from by rw [up2_n _ _ (by simp), up2_s]) ?_
  refine y_callV dX1_goBack_32 lk_X1_25 [.int (nI ((nx + 9) % 10))] rfl (c_stateAt E l hH hn9) (g_recv.obj (ci := 1) rfl (by decide) (show 51 < N by omega)) rfl ⟨⟨by decide, by decide⟩, by decide, by decide⟩ (lb rfl) ?_
  refine u_callV dX1_goBack_35 lk_X1_29 [.ref (53 + 2 * ((nx + 9) % 10))] rfl (c_copyFrom E l hg.2.2.2.2.2.1 hd (by omega) (by rw [up2_n _ _ (by omega), up2_n _ _ (by omega), hx0'.2.2.2.1]; exact b2i_01 _)) (g_recv.obj (ci := 4) hg.2.2.2.2.2.1.1 (by decide) (show gm sw + 2 < N by omega)) rfl ⟨⟨by decide, by decide⟩, by decide, by decide⟩ (lb rfl) (fun I' h_35 => ?_)
  obtain ⟨f1, f2, f3⟩ := h_35
  refine w_vret dX1_goBack_38 rfl ⟨_, rfl, ⟨?_, ?_, ?_⟩, rfl⟩ (by decide) (by decide)
  · rw [f1 51 (by omega) (by omega), up2_s]
  · intro o ho
    rw [f1 o (by omega) (by omega)]
    funext j
    rw [up2_n _ _ (by omega), up2_n _ _ (by omega)]
  · have hU : ∀ o, o ≠ 51 → (up2 (up2 I 51 1 (nI ((nx + 9) % 10))) 51 2 (nI hi.length)) o = I o := (fun o ho => by funext j; rw [up2_n _ _ (by omega), up2_n _ _ (by omega)])
    refine h.chg (fun o a b d => ?_) hx0.1 (stC.cp (I := I) hx0' hx0.1.2.2.2.1 (fun k hk => by rw [f2 k hk, hU _ (by omega)]) (fun j hj => by rw [f3 j hj, hU _ (by omega)])) ?_
    · rw [f1 o a (by omega), hU o (by omega)]
    · refine ⟨by rw [List.length_cons] at k1; omega, by rw [f1 51 (by omega) (by omega), up2_s], (nx + 9) % 10, hn9, by rw [f1 51 (by omega) (by omega), up2_n _ _ (by simp), up2_s], fun i hi9 => ?_⟩
      have q := k5 (i + 1) (by rw [List.length_cons]; omega)
      rw [List.getElem_cons_succ] at q
      refine ⟨q.1, ?_⟩
      rw [show ((nx + 9) % 10 + 9 - i) % 10 = (nx + 9 - (i + 1)) % 10 by rw [List.length_cons] at k1; omega]
      exact q.2.fr ((f1 _ (by omega) (by omega)).trans (hU _ (by omega))) ((f1 _ (by omega) (by omega)).trans (hU _ (by omega)))
set_option maxRecDepth 100000 in
theorem c_undo (hl : lk R N sw) (h : rC I J sw A n) {x : St} {hi : List St} (hh : A.hi = x :: hi) : g_Ct E l mX6_undo 3 102 0 0 [.ref 0] (I, J, R, D, N, ex) (g_ri (fun y I' => y = nI hi.length ∧ frM I I' ∧ rC I' J sw (A.up x hi) n) J R D N ex) := by
  refine g_Ct.of (by decide +kernel) (lb rfl) ?_
  have hN := hl.2.2.2.2.2.2.2.2.2.2.2.2.2.2.2.2
  have hg := hl.1
  have hgm := gm_b sw
  have k1 := h.2.2.2.2.2.2.2.2.1.1
  have k2 := h.2.2.2.2.2.2.2.2.1.2.1
  rw [hh] at k1 k2
  rw [List.length_cons] at k1 k2
  refine w_aload_n dX6_undo_0 rfl ?_
  refine x_getr (ci := 6) (k := 3) (a := 51) dX6_undo_1 rfl (by decide) (by decide) (by omega) fl_X6_33 (Or.inl ⟨_, rfl⟩) hl.2.2.2.2.2.2.2.1 ?_
  refine x_geti (ci := 1) (k := 2) dX6_undo_4 rfl (by decide) (by decide) (by omega) fl_X6_116 rfl ?_
  rw [k2]
  refine w_if_ne (tgt := 12) dX6_undo_7 (by decide) (fun c_7 => ?_) (fun c_7 => absurd c_7 ((nI_ne0 (by omega) (by omega))))
  refine w_aload_n dX6_undo_12 rfl ?_
  refine x_getr (ci := 6) (k := 3) (a := 51) dX6_undo_13 rfl (by decide) (by decide) (by omega) fl_X6_33 (Or.inl ⟨_, rfl⟩) hl.2.2.2.2.2.2.2.1 ?_
  refine w_aload_n dX6_undo_16 rfl ?_
  refine x_getr (ci := 6) (k := 0) (a := gm sw) dX6_undo_17 rfl (by decide) (by decide) (by omega) fl_X6_12 (Or.inl ⟨_, rfl⟩) hl.2.2.2.2.1 ?_
  refine x_getr (ci := 0) (k := 3) (a := gm sw + 2) dX6_undo_20 hg.1 (by decide) (by decide) (by omega) fl_X6_85 (Or.inl ⟨_, rfl⟩) hg.2.2.2.2.1 ?_
  refine u_callV dX6_undo_23 lk_X6_284 [.ref (gm sw + 2)] rfl (c_goBack E l hl h hh) (g_recv.obj (ci := 1) rfl (by decide) (show 51 < N by omega)) rfl ⟨⟨by decide, by decide⟩, by decide, by decide⟩ (lb rfl) (fun I' h_23 => ?_)
  obtain ⟨e1, e2, e3⟩ := h_23
  refine w_aload_n dX6_undo_26 rfl ?_
  refine x_getr (ci := 6) (k := 3) (a := 51) dX6_undo_27 rfl (by decide) (by decide) (by omega) fl_X6_33 (Or.inl ⟨_, rfl⟩) hl.2.2.2.2.2.2.2.1 ?_
  refine x_geti (ci := 1) (k := 2) dX6_undo_30 rfl (by decide) (by decide) (by omega) fl_X6_116 rfl ?_
  refine w_iret dX6_undo_33 rfl rfl ⟨_, _, rfl, ⟨e1, e2, e3⟩, rfl⟩ (by decide) (by decide)
set_option maxRecDepth 100000 in
theorem c_undo_no (hl : lk R N sw) (h : rC I J sw A n) (hh : A.hi = []) : g_Ct E l mX6_undo 3 102 0 0 [.ref 0] (I, J, R, D, N, ex) (g_is (some (.int (-1))) (I, J, R, D, N, ex)) := by
  refine g_Ct.of (by decide +kernel) (lb rfl) ?_
  have hN := hl.2.2.2.2.2.2.2.2.2.2.2.2.2.2.2.2
  have k2 := h.2.2.2.2.2.2.2.2.1.2.1
  rw [hh] at k2
  refine w_aload_n dX6_undo_0 rfl ?_
  refine x_getr (ci := 6) (k := 3) (a := 51) dX6_undo_1 rfl (by decide) (by decide) (by omega) fl_X6_33 (Or.inl ⟨_, rfl⟩) hl.2.2.2.2.2.2.2.1 ?_
  refine x_geti (ci := 1) (k := 2) dX6_undo_4 rfl (by decide) (by decide) (by omega) fl_X6_116 rfl ?_
  rw [k2]
  refine w_if_ne (tgt := 12) dX6_undo_7 (by decide) (fun c_7 => absurd (rfl) c_7) (fun c_7 => ?_)
  refine w_iconst (v := (-1)) dX6_undo_10 (by decide) ?_
  refine w_iret dX6_undo_11 rfl rfl ⟨rfl, rfl⟩ (by decide) (by decide)
end FN
