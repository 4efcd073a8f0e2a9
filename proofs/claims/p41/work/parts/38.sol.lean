/-! HeapGames: what the solver is asked -/
theorem sP.mono {I : Nat → Nat → Int32} {ru : Ru} {n m : Nat} (h : sP I ru n) (hm : n ≤ m) : sP I ru m := by
  obtain ⟨st, T, h1, h2⟩ := h
  exact ⟨st, T, by omega, h2⟩
theorem svT.mono {I : Nat → Nat → Int32} {A : AS} {n m t : Nat} (h : rdy I A n t) (hm : n ≤ m) : rdy I A m t := by
  obtain ⟨st, T, h1, h2⟩ := h
  exact ⟨st, T, by omega, h2⟩
def plS (A : AS) : Int32 := nI (A.st.pl.length % 2)
def wiS (A : AS) : Int32 := if (mvs A.cf A.st.pos).length > 0 then -1 else if A.st.mi then plS A else nI (1 - A.st.pl.length % 2)
def saS (s : St) : Nat → Nat
  | 0 => 0
  | h + 1 => saS s h + s.sz h
theorem saS_le {nr : Nat} {s : St} (h : stOK nr s) : ∀ k, saS s k ≤ 15 * k
  | 0 => Nat.le_refl _
  | k + 1 => by rw [saS]; have := saS_le h k; have := h.sz k; omega
theorem mvs_81 {c : Cf} (hc : c.ok) (p : Nat) : (mvs c p).length ≤ 81 := by
  have a := mvT_len hc p c.m (Nat.le_refl _)
  have b := mvB_len hc p c.m
  have d := pairs_le c.m hc.1 c.m (Nat.le_refl _)
  have hm := hc.1
  unfold mvs mvP
  rw [List.length_append, List.length_append]
  split
  · rw [List.length_singleton]; omega
  · rw [List.length_nil]; omega
section FE
variable (E : GE) (l : Launch)
variable {I : Nat → Nat → Int32} {J : Nat → Nat → Int64} {R : Nat → Nat → Option Nat} {D : Nat → Nat → UInt64} {N : Nat} {ex : Bool} {sw : Bool} {A : AS} {n g : Nat}
set_option maxRecDepth 100000 in
theorem c_prepare2 (hv : isV R N) (hg : isG R N g) {ru : Ru} {rs : List Nat} {mi : Bool} (hm : gmP I J g ru rs mi) (hw : I 47 4 = nI (wn rs mi)) :
    g_Ct E l mX3_prepare 3 68 0 0 [.ref 47, .ref g] (I, J, R, D, N, ex) (g_is none (I, J, R, D, N, ex)) := by
  refine g_Ct.of (by decide +kernel) (lb rfl) ?_
  have h51 := hv.1
  have hgN := hg.2.1
  obtain ⟨hrs, m0, m1, m3, m2, hsh, hru⟩ := hm
  have hrl := hrs.1
  have hlt := hrs.lt
  have hg2 : g + 2 < N := by omega
  refine w_aload_n dX3_prepare_0 rfl ?_
  refine x_getr (ci := 0) (k := 3) (a := g + 2) dX3_prepare_1 hg.1 (by decide) (by decide) (by omega) fl_X3_29 (Or.inl ⟨_, rfl⟩) hg.2.2.2.2.1 ?_
  refine w_astore_n dX3_prepare_4 (by decide) rfl ?_
  refine w_aload_n dX3_prepare_5 rfl ?_
  refine x_geti (ci := 4) (k := 1) dX3_prepare_6 hg.2.2.2.2.2.1.1 (by decide) (by decide) hg2 fl_X3_35 rfl ?_
  refine w_aload_n dX3_prepare_9 rfl ?_
  refine x_geti (ci := 4) (k := 0) dX3_prepare_10 hg.2.2.2.2.2.1.1 (by decide) (by decide) hg2 fl_X3_40 rfl ?_
  refine w_bipush (v := 16) dX3_prepare_13 (by decide) ?_
  refine w_ishl dX3_prepare_15 ?_
  refine w_ior dX3_prepare_16 ?_
  refine w_aload_n dX3_prepare_17 rfl ?_
  refine x_getz (ci := 4) (k := 3) dX3_prepare_18 hg.2.2.2.2.2.1.1 (by decide) (by decide) hg2 fl_X3_43 rfl ?_
  rw [m0, m1, m3]
  refine w_if_eq (tgt := 29) dX3_prepare_21 (by decide) (fun c_21 => ?_) (fun c_21 => ?_)
  · refine w_iconst (v := 0) dX3_prepare_29 (by decide) ?_
    refine w_ior dX3_prepare_30 ?_
    refine w_st (show _ = [.int (nI (wn rs mi))] from by rw [← wn_or hlt hrl, show nI rs.length <<< ((16 : Int32) &&& 31) = nI (rs.length * 2 ^ 16) from nx_shl (c := 16) (by decide), nx_or]; first | (rw [b2i_0.mp c_21]; exact congrArg (fun x => [Value.int x]) (nx_or _ 0)) | (rw [b2i_ne.mp c_21]; exact congrArg (fun x => [Value.int x]) (nx_or _ 1048576))) ?_
    refine w_istore_n dX3_prepare_31 (by decide) rfl ?_
    refine w_iload_n dX3_prepare_32 rfl ?_
    refine w_aload_n dX3_prepare_33 rfl ?_
    refine x_geti (ci := 3) (k := 4) dX3_prepare_34 rfl (by decide) (by decide) (by omega) fl_X3_22 rfl ?_
    refine w_icmp_ne (tgt := 41) dX3_prepare_37 (by decide) (fun c_37 => absurd (hw.symm) c_37) (fun c_37 => ?_)
    refine w_vret dX3_prepare_40 rfl ⟨rfl, rfl⟩ (by decide) (by decide)
  · refine w_ldc dX3_prepare_24 kc_X3_47 ?_
    refine w_goto (tgt := 30) dX3_prepare_26 (by decide) ?_
    refine w_ior dX3_prepare_30 ?_
    refine w_st (show _ = [.int (nI (wn rs mi))] from by rw [← wn_or hlt hrl, show nI rs.length <<< ((16 : Int32) &&& 31) = nI (rs.length * 2 ^ 16) from nx_shl (c := 16) (by decide), nx_or]; first | (rw [b2i_0.mp c_21]; exact congrArg (fun x => [Value.int x]) (nx_or _ 0)) | (rw [b2i_ne.mp c_21]; exact congrArg (fun x => [Value.int x]) (nx_or _ 1048576))) ?_
    refine w_istore_n dX3_prepare_31 (by decide) rfl ?_
    refine w_iload_n dX3_prepare_32 rfl ?_
    refine w_aload_n dX3_prepare_33 rfl ?_
    refine x_geti (ci := 3) (k := 4) dX3_prepare_34 rfl (by decide) (by decide) (by omega) fl_X3_22 rfl ?_
    refine w_icmp_ne (tgt := 41) dX3_prepare_37 (by decide) (fun c_37 => absurd (hw.symm) c_37) (fun c_37 => ?_)
    refine w_vret dX3_prepare_40 rfl ⟨rfl, rfl⟩ (by decide) (by decide)
set_option maxRecDepth 100000 in
theorem c_solvePosition (hl : lk R N sw) (h : rC I J sw A n) (hn5 : n < 100000) : g_Ct E l mX6_solvePosition 5 122 0 0 [.ref 0] (I, J, R, D, N, ex) (g_rv (fun I' => frS I I' ∧ rdy I' A (n + 1) A.st.pos) J R D N ex) := by
  refine g_Ct.of (by decide +kernel) (lb rfl) ?_
  have hN := hl.2.2.2.2.2.2.2.2.2.2.2.2.2.2.2.2
  have hg := hl.1
  have hv := hl.2.2.1
  have hgm := gm_b sw
  have hok := h.2.2.2.2.1
  have hc : A.cf.ok := cf_ok h.2.1 (hok.rs h.1.2)
  refine w_aload_n dX6_solvePosition_0 rfl ?_
  refine x_getr (ci := 6) (k := 2) (a := 47) dX6_solvePosition_1 rfl (by decide) (by decide) (by omega) fl_X6_26 (Or.inl ⟨_, rfl⟩) hl.2.2.2.2.2.2.1 ?_
  refine w_aload_n dX6_solvePosition_4 rfl ?_
  refine x_getr (ci := 6) (k := 0) (a := gm sw) dX6_solvePosition_5 rfl (by decide) (by decide) (by omega) fl_X6_12 (Or.inl ⟨_, rfl⟩) hl.2.2.2.2.1 ?_
  refine u_callV dX6_solvePosition_8 lk_X6_212 [.ref (gm sw)] rfl (c_prepare E l hv hg hgm.1 h.gmP hn5 h.2.2.2.2.2.2.2.1) (g_recv.obj (ci := 3) rfl (by decide) (show 47 < N by omega)) rfl ⟨⟨by decide, by decide⟩, by decide, by decide⟩ (lb rfl) (fun I' h_8 => ?_)
  obtain ⟨f1, T, st, q1, q2, q3, q4⟩ := h_8
  refine w_aload_n dX6_solvePosition_11 rfl ?_
  refine x_getr (ci := 6) (k := 2) (a := 47) dX6_solvePosition_12 rfl (by decide) (by decide) (by omega) fl_X6_26 (Or.inl ⟨_, rfl⟩) hl.2.2.2.2.2.2.1 ?_
  refine w_aload_n dX6_solvePosition_15 rfl ?_
  refine x_getr (ci := 6) (k := 0) (a := gm sw) dX6_solvePosition_16 rfl (by decide) (by decide) (by omega) fl_X6_12 (Or.inl ⟨_, rfl⟩) hl.2.2.2.2.1 ?_
  refine x_getr (ci := 0) (k := 3) (a := gm sw + 2) dX6_solvePosition_19 hg.1 (by decide) (by decide) (by omega) fl_X6_85 (Or.inl ⟨_, rfl⟩) hg.2.2.2.2.1 ?_
  refine x_geti (ci := 4) (k := 2) dX6_solvePosition_22 hg.2.2.2.2.2.1.1 (by decide) (by decide) (by omega) fl_X6_92 rfl ?_
  rw [f1 (gm sw + 2) (by omega) (by omega), h.2.2.2.2.2.1.2.2.1]
  refine u_callV dX6_solvePosition_25 lk_X6_220 [.int (nI A.st.pos)] rfl (c_solveBelow E l hv hc q3 q4 hok.pos) (g_recv.obj (ci := 3) rfl (by decide) (show 47 < N by omega)) rfl ⟨⟨by decide, by decide⟩, by decide, by decide⟩ (lb rfl) (fun I2 h_25 => ?_)
  obtain ⟨f2, T2, t1, t2⟩ := h_25
  refine w_vret dX6_solvePosition_28 rfl ⟨_, rfl, ⟨f1.s.trans f2.s, st, T2, q1, by rw [f2.2 4 (by decide)]; exact q2, q3.frY f2, t1, t2⟩, rfl⟩ (by decide) (by decide)
set_option maxRecDepth 100000 in
theorem c_listMoves (hl : lk R N sw) (h : rC I J sw A n) (hn5 : n < 100000) : g_Ct E l mX6_listMoves 4 92 0 0 [.ref 0] (I, J, R, D, N, ex) (g_ri (fun x I' => x = nI (mvs A.cf A.st.pos).length ∧ nxOK I' A.st.pos (mvs A.cf A.st.pos) ∧ frS I I' ∧ prp I' A (n + 1)) J R D N ex) := by
  refine g_Ct.of (by decide +kernel) (lb rfl) ?_
  have hN := hl.2.2.2.2.2.2.2.2.2.2.2.2.2.2.2.2
  have hg := hl.1
  have hv := hl.2.2.1
  have hgm := gm_b sw
  have hok := h.2.2.2.2.1
  have hc : A.cf.ok := cf_ok h.2.1 (hok.rs h.1.2)
  refine w_aload_n dX6_listMoves_0 rfl ?_
  refine x_getr (ci := 6) (k := 2) (a := 47) dX6_listMoves_1 rfl (by decide) (by decide) (by omega) fl_X6_26 (Or.inl ⟨_, rfl⟩) hl.2.2.2.2.2.2.1 ?_
  refine w_aload_n dX6_listMoves_4 rfl ?_
  refine x_getr (ci := 6) (k := 0) (a := gm sw) dX6_listMoves_5 rfl (by decide) (by decide) (by omega) fl_X6_12 (Or.inl ⟨_, rfl⟩) hl.2.2.2.2.1 ?_
  refine u_callV dX6_listMoves_8 lk_X6_212 [.ref (gm sw)] rfl (c_prepare E l hv hg hgm.1 h.gmP hn5 h.2.2.2.2.2.2.2.1) (g_recv.obj (ci := 3) rfl (by decide) (show 47 < N by omega)) rfl ⟨⟨by decide, by decide⟩, by decide, by decide⟩ (lb rfl) (fun I' h_8 => ?_)
  obtain ⟨f1, T, st, q1, q2, q3, q4⟩ := h_8
  refine w_aload_n dX6_listMoves_11 rfl ?_
  refine x_getr (ci := 6) (k := 2) (a := 47) dX6_listMoves_12 rfl (by decide) (by decide) (by omega) fl_X6_26 (Or.inl ⟨_, rfl⟩) hl.2.2.2.2.2.2.1 ?_
  refine w_aload_n dX6_listMoves_15 rfl ?_
  refine x_getr (ci := 6) (k := 0) (a := gm sw) dX6_listMoves_16 rfl (by decide) (by decide) (by omega) fl_X6_12 (Or.inl ⟨_, rfl⟩) hl.2.2.2.2.1 ?_
  refine x_getr (ci := 0) (k := 3) (a := gm sw + 2) dX6_listMoves_19 hg.1 (by decide) (by decide) (by omega) fl_X6_85 (Or.inl ⟨_, rfl⟩) hg.2.2.2.2.1 ?_
  refine x_geti (ci := 4) (k := 2) dX6_listMoves_22 hg.2.2.2.2.2.1.1 (by decide) (by decide) (by omega) fl_X6_92 rfl ?_
  rw [f1 (gm sw + 2) (by omega) (by omega), h.2.2.2.2.2.1.2.2.1]
  refine v_callV dX6_listMoves_25 lk_X6_233 [.int (nI A.st.pos)] rfl (c_listNext E l hv hc q3 hok.pos) (g_recv.obj (ci := 3) rfl (by decide) (show 47 < N by omega)) rfl ⟨⟨by decide, by decide⟩, by decide, by decide⟩ (lb rfl) (fun x_25 I2 h_25 => ?_)
  obtain ⟨t1, t2, t3⟩ := h_25
  refine w_iret dX6_listMoves_28 rfl rfl ⟨_, _, rfl, ⟨t1, t2, f1.s.trans t3.s, T, st, q1, by rw [t3.2 4 (by decide)]; exact q2, q3.fr t3, q4.fr t3⟩, rfl⟩ (by decide) (by decide)
set_option maxRecDepth 100000 in
theorem c_listMovesR (hl : lk R N sw) (h : rC I J sw A n) {t m : Nat} (hr : rdy I A m t) : g_Ct E l mX6_listMoves 4 92 0 0 [.ref 0] (I, J, R, D, N, ex) (g_ri (fun x I' => x = nI (mvs A.cf A.st.pos).length ∧ nxOK I' A.st.pos (mvs A.cf A.st.pos) ∧ frX I I') J R D N ex) := by
  refine g_Ct.of (by decide +kernel) (lb rfl) ?_
  have hN := hl.2.2.2.2.2.2.2.2.2.2.2.2.2.2.2.2
  have hg := hl.1
  have hv := hl.2.2.1
  have hgm := gm_b sw
  have hok := h.2.2.2.2.1
  have hc : A.cf.ok := cf_ok h.2.1 (hok.rs h.1.2)
  obtain ⟨st, T, q1, q2, q3, q4, q5⟩ := hr
  refine w_aload_n dX6_listMoves_0 rfl ?_
  refine x_getr (ci := 6) (k := 2) (a := 47) dX6_listMoves_1 rfl (by decide) (by decide) (by omega) fl_X6_26 (Or.inl ⟨_, rfl⟩) hl.2.2.2.2.2.2.1 ?_
  refine w_aload_n dX6_listMoves_4 rfl ?_
  refine x_getr (ci := 6) (k := 0) (a := gm sw) dX6_listMoves_5 rfl (by decide) (by decide) (by omega) fl_X6_12 (Or.inl ⟨_, rfl⟩) hl.2.2.2.2.1 ?_
  refine z_callV dX6_listMoves_8 lk_X6_212 [.ref (gm sw)] rfl (c_prepare2 E l hv hg h.gmP q2) (g_recv.obj (ci := 3) rfl (by decide) (show 47 < N by omega)) rfl ⟨⟨by decide, by decide⟩, by decide, by decide⟩ (lb rfl) ?_
  refine w_aload_n dX6_listMoves_11 rfl ?_
  refine x_getr (ci := 6) (k := 2) (a := 47) dX6_listMoves_12 rfl (by decide) (by decide) (by omega) fl_X6_26 (Or.inl ⟨_, rfl⟩) hl.2.2.2.2.2.2.1 ?_
  refine w_aload_n dX6_listMoves_15 rfl ?_
  refine x_getr (ci := 6) (k := 0) (a := gm sw) dX6_listMoves_16 rfl (by decide) (by decide) (by omega) fl_X6_12 (Or.inl ⟨_, rfl⟩) hl.2.2.2.2.1 ?_
  refine x_getr (ci := 0) (k := 3) (a := gm sw + 2) dX6_listMoves_19 hg.1 (by decide) (by decide) (by omega) fl_X6_85 (Or.inl ⟨_, rfl⟩) hg.2.2.2.2.1 ?_
  refine x_geti (ci := 4) (k := 2) dX6_listMoves_22 hg.2.2.2.2.2.1.1 (by decide) (by decide) (by omega) fl_X6_92 rfl ?_
  rw [h.2.2.2.2.2.1.2.2.1]
  refine v_callV dX6_listMoves_25 lk_X6_233 [.int (nI A.st.pos)] rfl (c_listNext E l hv hc q3 hok.pos) (g_recv.obj (ci := 3) rfl (by decide) (show 47 < N by omega)) rfl ⟨⟨by decide, by decide⟩, by decide, by decide⟩ (lb rfl) (fun x_25 I2 h_25 => ?_)
  obtain ⟨t1, t2, t3⟩ := h_25
  refine w_iret dX6_listMoves_28 rfl rfl ⟨_, _, rfl, ⟨t1, t2, t3⟩, rfl⟩ (by decide) (by decide)
set_option maxRecDepth 100000 in
theorem c_positionValue (hl : lk R N sw) (h : rC I J sw A n) (hn5 : n < 100000) : g_Ct E l mX6_positionValue 6 142 0 0 [.ref 0] (I, J, R, D, N, ex) (g_ri (fun x I' => x = nI (val A.cf A.st.pos).2.2 ∧ frS I I' ∧ rdy I' A (n + 1) A.st.pos) J R D N ex) := by
  refine g_Ct.of (by decide +kernel) (lb rfl) ?_
  have hN := hl.2.2.2.2.2.2.2.2.2.2.2.2.2.2.2.2
  have hg := hl.1
  have hv := hl.2.2.1
  have hgm := gm_b sw
  have hok := h.2.2.2.2.1
  have hc : A.cf.ok := cf_ok h.2.1 (hok.rs h.1.2)
  refine w_aload_n dX6_positionValue_0 rfl ?_
  refine u_callV dX6_positionValue_1 lk_X6_186 [] rfl (c_solvePosition E l hl h hn5) (g_recv.obj (ci := 6) rfl (by decide) (show 0 < N by omega)) rfl ⟨⟨by decide, by decide⟩, by decide, by decide⟩ (lb rfl) (fun I' h_1 => ?_)
  obtain ⟨f1, hr⟩ := h_1
  have hr' := hr
  obtain ⟨st, T, q1, q2, q3, q4, q5⟩ := hr
  refine w_aload_n dX6_positionValue_4 rfl ?_
  refine x_getr (ci := 6) (k := 2) (a := 47) dX6_positionValue_5 rfl (by decide) (by decide) (by omega) fl_X6_26 (Or.inl ⟨_, rfl⟩) hl.2.2.2.2.2.2.1 ?_
  refine w_aload_n dX6_positionValue_8 rfl ?_
  refine x_getr (ci := 6) (k := 0) (a := gm sw) dX6_positionValue_9 rfl (by decide) (by decide) (by omega) fl_X6_12 (Or.inl ⟨_, rfl⟩) hl.2.2.2.2.1 ?_
  refine x_getr (ci := 0) (k := 3) (a := gm sw + 2) dX6_positionValue_12 hg.1 (by decide) (by decide) (by omega) fl_X6_85 (Or.inl ⟨_, rfl⟩) hg.2.2.2.2.1 ?_
  refine x_geti (ci := 4) (k := 2) dX6_positionValue_15 hg.2.2.2.2.2.1.1 (by decide) (by decide) (by omega) fl_X6_92 rfl ?_
  rw [f1 (gm sw + 2) (by omega) (by omega) (by omega) (by omega), h.2.2.2.2.2.1.2.2.1]
  refine y_callV dX6_positionValue_18 lk_X6_189 [.int (nI A.st.pos)] rfl (c_Sv_valueAt E l hv hc.1 q4 hok.pos q5) (g_recv.obj (ci := 3) rfl (by decide) (show 47 < N by omega)) rfl ⟨⟨by decide, by decide⟩, by decide, by decide⟩ (lb rfl) ?_
  refine w_iret dX6_positionValue_21 rfl rfl ⟨_, _, rfl, ⟨rfl, f1, hr'⟩, rfl⟩ (by decide) (by decide)
set_option maxRecDepth 100000 in
theorem c_isWon (hl : lk R N sw) (h : rC I J sw A n) (hn5 : n < 100000) : g_Ct E l mX6_isWon 6 142 0 0 [.ref 0] (I, J, R, D, N, ex) (g_ri (fun x I' => x = b2i (val A.cf A.st.pos).1 ∧ frS I I' ∧ rdy I' A (n + 1) A.st.pos) J R D N ex) := by
  refine g_Ct.of (by decide +kernel) (lb rfl) ?_
  have hN := hl.2.2.2.2.2.2.2.2.2.2.2.2.2.2.2.2
  have hg := hl.1
  have hv := hl.2.2.1
  have hgm := gm_b sw
  have hok := h.2.2.2.2.1
  have hc : A.cf.ok := cf_ok h.2.1 (hok.rs h.1.2)
  refine w_aload_n dX6_isWon_0 rfl ?_
  refine u_callV dX6_isWon_1 lk_X6_186 [] rfl (c_solvePosition E l hl h hn5) (g_recv.obj (ci := 6) rfl (by decide) (show 0 < N by omega)) rfl ⟨⟨by decide, by decide⟩, by decide, by decide⟩ (lb rfl) (fun I' h_1 => ?_)
  obtain ⟨f1, hr⟩ := h_1
  have hr' := hr
  obtain ⟨st, T, q1, q2, q3, q4, q5⟩ := hr
  refine w_aload_n dX6_isWon_4 rfl ?_
  refine x_getr (ci := 6) (k := 2) (a := 47) dX6_isWon_5 rfl (by decide) (by decide) (by omega) fl_X6_26 (Or.inl ⟨_, rfl⟩) hl.2.2.2.2.2.2.1 ?_
  refine w_aload_n dX6_isWon_8 rfl ?_
  refine x_getr (ci := 6) (k := 0) (a := gm sw) dX6_isWon_9 rfl (by decide) (by decide) (by omega) fl_X6_12 (Or.inl ⟨_, rfl⟩) hl.2.2.2.2.1 ?_
  refine x_getr (ci := 0) (k := 3) (a := gm sw + 2) dX6_isWon_12 hg.1 (by decide) (by decide) (by omega) fl_X6_85 (Or.inl ⟨_, rfl⟩) hg.2.2.2.2.1 ?_
  refine x_geti (ci := 4) (k := 2) dX6_isWon_15 hg.2.2.2.2.2.1.1 (by decide) (by decide) (by omega) fl_X6_92 rfl ?_
  rw [f1 (gm sw + 2) (by omega) (by omega) (by omega) (by omega), h.2.2.2.2.2.1.2.2.1]
  refine y_callV dX6_isWon_18 lk_X6_192 [.int (nI A.st.pos)] rfl (c_Sv_isWonAt E l hv hc.1 q4 hok.pos q5) (g_recv.obj (ci := 3) rfl (by decide) (show 47 < N by omega)) rfl ⟨⟨by decide, by decide⟩, by decide, by decide⟩ (lb rfl) ?_
  refine w_iret dX6_isWon_21 rfl (nz_b _) ⟨_, _, rfl, ⟨rfl, f1, hr'⟩, rfl⟩ (by decide) (by decide)
set_option maxRecDepth 100000 in
theorem c_length (hl : lk R N sw) (h : rC I J sw A n) (hn5 : n < 100000) : g_Ct E l mX6_length 6 142 0 0 [.ref 0] (I, J, R, D, N, ex) (g_ri (fun x I' => x = nI (val A.cf A.st.pos).2.1 ∧ frS I I' ∧ rdy I' A (n + 1) A.st.pos) J R D N ex) := by
  refine g_Ct.of (by decide +kernel) (lb rfl) ?_
  have hN := hl.2.2.2.2.2.2.2.2.2.2.2.2.2.2.2.2
  have hg := hl.1
  have hv := hl.2.2.1
  have hgm := gm_b sw
  have hok := h.2.2.2.2.1
  have hc : A.cf.ok := cf_ok h.2.1 (hok.rs h.1.2)
  refine w_aload_n dX6_length_0 rfl ?_
  refine u_callV dX6_length_1 lk_X6_186 [] rfl (c_solvePosition E l hl h hn5) (g_recv.obj (ci := 6) rfl (by decide) (show 0 < N by omega)) rfl ⟨⟨by decide, by decide⟩, by decide, by decide⟩ (lb rfl) (fun I' h_1 => ?_)
  obtain ⟨f1, hr⟩ := h_1
  have hr' := hr
  obtain ⟨st, T, q1, q2, q3, q4, q5⟩ := hr
  refine w_aload_n dX6_length_4 rfl ?_
  refine x_getr (ci := 6) (k := 2) (a := 47) dX6_length_5 rfl (by decide) (by decide) (by omega) fl_X6_26 (Or.inl ⟨_, rfl⟩) hl.2.2.2.2.2.2.1 ?_
  refine w_aload_n dX6_length_8 rfl ?_
  refine x_getr (ci := 6) (k := 0) (a := gm sw) dX6_length_9 rfl (by decide) (by decide) (by omega) fl_X6_12 (Or.inl ⟨_, rfl⟩) hl.2.2.2.2.1 ?_
  refine x_getr (ci := 0) (k := 3) (a := gm sw + 2) dX6_length_12 hg.1 (by decide) (by decide) (by omega) fl_X6_85 (Or.inl ⟨_, rfl⟩) hg.2.2.2.2.1 ?_
  refine x_geti (ci := 4) (k := 2) dX6_length_15 hg.2.2.2.2.2.1.1 (by decide) (by decide) (by omega) fl_X6_92 rfl ?_
  rw [f1 (gm sw + 2) (by omega) (by omega) (by omega) (by omega), h.2.2.2.2.2.1.2.2.1]
  refine y_callV dX6_length_18 lk_X6_195 [.int (nI A.st.pos)] rfl (c_Sv_lengthAt E l hv hc.1 q4 hok.pos q5) (g_recv.obj (ci := 3) rfl (by decide) (show 47 < N by omega)) rfl ⟨⟨by decide, by decide⟩, by decide, by decide⟩ (lb rfl) ?_
  refine w_iret dX6_length_21 rfl rfl ⟨_, _, rfl, ⟨rfl, f1, hr'⟩, rfl⟩ (by decide) (by decide)
set_option maxRecDepth 100000 in
theorem c_moves (hl : lk R N sw) (h : rC I J sw A n) (hn5 : n < 100000) : g_Ct E l mX6_moves 5 112 0 0 [.ref 0] (I, J, R, D, N, ex) (g_ri (fun x I' => x = nI (mvs A.cf A.st.pos).length ∧ frS I I' ∧ prp I' A (n + 1)) J R D N ex) := by
  refine g_Ct.of (by decide +kernel) (lb rfl) ?_
  have hN := hl.2.2.2.2.2.2.2.2.2.2.2.2.2.2.2.2
  refine w_aload_n dX6_moves_0 rfl ?_
  refine v_callV dX6_moves_1 lk_X6_121 [] rfl (c_listMoves E l hl h hn5) (g_recv.obj (ci := 6) rfl (by decide) (show 0 < N by omega)) rfl ⟨⟨by decide, by decide⟩, by decide, by decide⟩ (lb rfl) (fun x_1 I' h_1 => ?_)
  refine w_iret dX6_moves_4 rfl rfl ⟨_, _, rfl, ⟨h_1.1, h_1.2.2⟩, rfl⟩ (by decide) (by decide)
set_option maxRecDepth 100000 in
theorem c_playerToMove (hl : lk R N sw) (h : stC I (gm sw + 2) A.st) (ho : stOK A.nr A.st) : g_Ct E l mX6_playerToMove 0 0 0 0 [.ref 0] (I, J, R, D, N, ex) (g_is (some (.int (plS A))) (I, J, R, D, N, ex)) := by
  refine g_Ct.of (by decide +kernel) (lb rfl) ?_
  have hN := hl.2.2.2.2.2.2.2.2.2.2.2.2.2.2.2.2
  have hg := hl.1
  have hgm := gm_b sw
  have h40 := ho.2.2.2.1
  refine w_aload_n dX6_playerToMove_0 rfl ?_
  refine x_getr (ci := 6) (k := 0) (a := gm sw) dX6_playerToMove_1 rfl (by decide) (by decide) (by omega) fl_X6_12 (Or.inl ⟨_, rfl⟩) hl.2.2.2.2.1 ?_
  refine x_getr (ci := 0) (k := 3) (a := gm sw + 2) dX6_playerToMove_4 hg.1 (by decide) (by decide) (by omega) fl_X6_85 (Or.inl ⟨_, rfl⟩) hg.2.2.2.2.1 ?_
  refine x_geti (ci := 4) (k := 4) dX6_playerToMove_7 hg.2.2.2.2.2.1.1 (by decide) (by decide) (by omega) fl_X6_106 rfl ?_
  rw [h.2.2.2.2.1]
  refine w_iconst (v := 2) dX6_playerToMove_10 (by decide) ?_
  refine w_irem dX6_playerToMove_11 (by decide) ?_
  refine w_st (show _ = [.int (plS A)] from by rw [show (2 : Int32) = nI 2 from rfl, pk_rem (by omega) (by omega) (by omega)]; rfl) ?_
  refine w_iret dX6_playerToMove_12 rfl rfl ⟨rfl, rfl⟩ (by decide) (by decide)
set_option maxRecDepth 100000 in
theorem c_winner (hl : lk R N sw) (h : rC I J sw A n) (hn5 : n < 100000) : g_Ct E l mX6_winner 5 112 0 0 [.ref 0] (I, J, R, D, N, ex) (g_ri (fun x I' => x = wiS A ∧ frS I I' ∧ prp I' A (n + 1)) J R D N ex) := by
  refine g_Ct.of (by decide +kernel) (lb rfl) ?_
  have hN := hl.2.2.2.2.2.2.2.2.2.2.2.2.2.2.2.2
  have hg := hl.1
  have hgm := gm_b sw
  have hok := h.2.2.2.2.1
  have h81 := mvs_81 (cf_ok (mi := A.st.mi) h.2.1 (hok.rs h.1.2)) A.st.pos
  have h81' : (mvs A.cf A.st.pos).length ≤ 81 := h81
  refine w_aload_n dX6_winner_0 rfl ?_
  refine v_callV dX6_winner_1 lk_X6_121 [] rfl (c_listMoves E l hl h hn5) (g_recv.obj (ci := 6) rfl (by decide) (show 0 < N by omega)) rfl ⟨⟨by decide, by decide⟩, by decide, by decide⟩ (lb rfl) (fun x_1 I' h_1 => ?_)
  obtain ⟨e1, e2, e3, e4⟩ := h_1
  rw [e1]
  have hst : stC I' (gm sw + 2) A.st := h.2.2.2.2.2.1.fr (e3 _ (by omega) (by omega) (by omega) (by omega)) (e3 _ (by omega) (by omega) (by omega) (by omega))
  refine w_if_le (tgt := 9) dX6_winner_4 (by decide) (fun c_4 => ?_) (fun c_4 => ?_)
  · refine w_aload_n dX6_winner_9 rfl ?_
    refine x_getr (ci := 6) (k := 0) (a := gm sw) dX6_winner_10 rfl (by decide) (by decide) (by omega) fl_X6_12 (Or.inl ⟨_, rfl⟩) hl.2.2.2.2.1 ?_
    refine x_getr (ci := 0) (k := 3) (a := gm sw + 2) dX6_winner_13 hg.1 (by decide) (by decide) (by omega) fl_X6_85 (Or.inl ⟨_, rfl⟩) hg.2.2.2.2.1 ?_
    refine x_getz (ci := 4) (k := 3) dX6_winner_16 hg.2.2.2.2.2.1.1 (by decide) (by decide) (by omega) fl_X6_102 rfl ?_
    rw [hst.2.2.2.1]
    refine w_if_eq (tgt := 29) dX6_winner_19 (by decide) (fun c_19 => ?_) (fun c_19 => ?_)
    · refine w_iconst (v := 1) dX6_winner_29 (by decide) ?_
      refine w_aload_n dX6_winner_30 rfl ?_
      refine y_callV dX6_winner_31 lk_X6_109 [] rfl (c_playerToMove E l hl hst hok) (g_recv.obj (ci := 6) rfl (by decide) (show 0 < N by omega)) rfl ⟨⟨by decide, by decide⟩, by decide, by decide⟩ (lb rfl) ?_
      refine w_isub dX6_winner_34 ?_
      refine w_iret dX6_winner_35 rfl rfl (by have hw : ¬ (mvs A.cf A.st.pos).length > 0 := Nat.not_lt.mpr (n_le (b := 0) c_4); first | exact ⟨_, _, rfl, ⟨by unfold wiS; rw [if_neg hw, if_pos (b2i_ne.mp c_19)], e3, e4⟩, rfl⟩ | exact ⟨_, _, rfl, ⟨by unfold wiS plS; rw [if_neg hw, b2i_0.mp c_19, show (1 : Int32) = nI 1 from rfl, pk_sub (by omega)]; rfl, e3, e4⟩, rfl⟩) (by decide) (by decide)
    · refine w_aload_n dX6_winner_22 rfl ?_
      refine y_callV dX6_winner_23 lk_X6_109 [] rfl (c_playerToMove E l hl hst hok) (g_recv.obj (ci := 6) rfl (by decide) (show 0 < N by omega)) rfl ⟨⟨by decide, by decide⟩, by decide, by decide⟩ (lb rfl) ?_
      refine w_goto (tgt := 35) dX6_winner_26 (by decide) ?_
      refine w_iret dX6_winner_35 rfl rfl (by have hw : ¬ (mvs A.cf A.st.pos).length > 0 := Nat.not_lt.mpr (n_le (b := 0) c_4); first | exact ⟨_, _, rfl, ⟨by unfold wiS; rw [if_neg hw, if_pos (b2i_ne.mp c_19)], e3, e4⟩, rfl⟩ | exact ⟨_, _, rfl, ⟨by unfold wiS plS; rw [if_neg hw, b2i_0.mp c_19, show (1 : Int32) = nI 1 from rfl, pk_sub (by omega)]; rfl, e3, e4⟩, rfl⟩) (by decide) (by decide)
  · refine w_iconst (v := (-1)) dX6_winner_7 (by decide) ?_
    refine w_iret dX6_winner_8 rfl rfl ⟨_, _, rfl, ⟨by unfold wiS; rw [if_pos (n_nle (b := 0) c_4)], e3, e4⟩, rfl⟩ (by decide) (by decide)
set_option maxRecDepth 100000 in
theorem c_isRecordFull (hl : lk R N sw) (h : rC I J sw A n) : g_Ct E l mX6_isRecordFull 0 0 0 0 [.ref 0] (I, J, R, D, N, ex) (g_is (some (.int (b2i (decide (A.st.pl.length = 40))))) (I, J, R, D, N, ex)) := by
  refine g_Ct.of (by decide +kernel) (lb rfl) ?_
  have hN := hl.2.2.2.2.2.2.2.2.2.2.2.2.2.2.2.2
  have hg := hl.1
  have hgm := gm_b sw
  have h40 := h.2.2.2.2.1.2.2.2.1
  refine w_aload_n dX6_isRecordFull_0 rfl ?_
  refine x_getr (ci := 6) (k := 0) (a := gm sw) dX6_isRecordFull_1 rfl (by decide) (by decide) (by omega) fl_X6_12 (Or.inl ⟨_, rfl⟩) hl.2.2.2.2.1 ?_
  refine x_getr (ci := 0) (k := 3) (a := gm sw + 2) dX6_isRecordFull_4 hg.1 (by decide) (by decide) (by omega) fl_X6_85 (Or.inl ⟨_, rfl⟩) hg.2.2.2.2.1 ?_
  refine x_geti (ci := 4) (k := 4) dX6_isRecordFull_7 hg.2.2.2.2.2.1.1 (by decide) (by decide) (by omega) fl_X6_106 rfl ?_
  rw [h.2.2.2.2.2.1.2.2.2.2.1]
  refine w_bipush (v := 40) dX6_isRecordFull_10 (by decide) ?_
  refine w_icmp_lt (tgt := 19) dX6_isRecordFull_12 (by decide) (fun c_12 => ?_) (fun c_12 => ?_)
  · refine w_iconst (v := 0) dX6_isRecordFull_19 (by decide) ?_
    refine w_iret dX6_isRecordFull_20 rfl (by rfl) (by first | exact ⟨rt_f (decide_eq_false (by have := n_lt (b := 40) c_12; omega)), rfl⟩ | exact ⟨rt_t (decide_eq_true (by have := n_nlt (b := 40) c_12; omega)), rfl⟩) (by decide) (by decide)
  · refine w_iconst (v := 1) dX6_isRecordFull_15 (by decide) ?_
    refine w_goto (tgt := 20) dX6_isRecordFull_16 (by decide) ?_
    refine w_iret dX6_isRecordFull_20 rfl (by rfl) (by first | exact ⟨rt_f (decide_eq_false (by have := n_lt (b := 40) c_12; omega)), rfl⟩ | exact ⟨rt_t (decide_eq_true (by have := n_nlt (b := 40) c_12; omega)), rfl⟩) (by decide) (by decide)
end FE
