/-! HeapGames: settings, undo -/
theorem app_rs (s : St) (r z : Nat) : St.rs (s.hs ++ [(r, z)], s.ps, s.mi, s.pl) = s.rs ++ [r] := by unfold St.rs; rw [List.map_append]; rfl
theorem app_zs (s : St) (r z : Nat) : St.zs (s.hs ++ [(r, z)], s.ps, s.mi, s.pl) = s.zs ++ [z] := by unfold St.zs; rw [List.map_append]; rfl
theorem map_er {α : Type} (f : Nat × Nat → α) : ∀ (l : List (Nat × Nat)) (k : Nat), (l.eraseIdx k).map f = (l.map f).eraseIdx k
  | [], _ => rfl
  | _ :: _, 0 => rfl
  | x :: xs, k + 1 => by show f x :: (xs.eraseIdx k).map f = f x :: (xs.map f).eraseIdx k; rw [map_er f xs k]
theorem er_rs (s : St) (k : Nat) : St.rs (s.hs.eraseIdx k, s.ps, s.mi, s.pl) = s.rs.eraseIdx k := map_er _ _ _
theorem er_zs (s : St) (k : Nat) : St.zs (s.hs.eraseIdx k, s.ps, s.mi, s.pl) = s.zs.eraseIdx k := map_er _ _ _
def St.app (s : St) (r z : Nat) : St := (s.hs ++ [(r, z)], s.ps, s.mi, s.pl)
def St.del (s : St) (k : Nat) : St := (s.hs.eraseIdx k, s.ps, s.mi, s.pl)
def St.pas (s : St) (p : Nat) : St := (s.hs, p, s.mi, s.pl)
def St.mis (s : St) (b : Bool) : St := (s.hs, s.ps, b, s.pl)
section FM
variable (E : GE) (l : Launch)
variable {I : Nat → Nat → Int32} {J : Nat → Nat → Int64} {R : Nat → Nat → Option Nat} {D : Nat → Nat → UInt64} {N : Nat} {ex : Bool} {sw : Bool} {A : AS} {n s : Nat}
/-- the state kept, all else as it was -/
theorem c_rem (hl : lk R N sw) (h : rC I J sw A n) : g_Ct E l mX1_remember 2 81 0 0 [.ref 51, .ref (gm sw + 2)] (I, J, R, D, N, ex) (g_rv (fun I' => frH I I' ∧ hiC I' A.nr ((A.st :: A.hi).take 10)) J R D N ex) :=
  c_remember E l hl.2.2.2.1 hl.1.2.2.2.2.2.1 (by have := gm_b sw; omega) h.2.2.2.2.2.2.2.2.1 h.2.2.2.2.2.1 h.2.2.2.2.1
theorem rC.rec {I' : Nat → Nat → Int32} (h : rC I J sw A n) (f : frH I I') (hh : hiC I' A.nr ((A.st :: A.hi).take 10)) : rC I' J sw (A.rec A.st) n :=
  h.chg (fun o _ _ c => f o c) h.2.2.2.2.1 (h.2.2.2.2.2.1.fr (f _ (by have := gm_b sw; omega)) (f _ (by have := gm_b sw; omega))) hh
theorem frH.m {I' : Nat → Nat → Int32} (f : frH I I') : frM I I' := fun o a => f o (by omega)
set_option maxRecDepth 100000 in
theorem c_requireSize (w : GW) {k : Nat} (hk : k < 16) : g_Ct E l mX6_requireSize 6 90 0 0 [.int (nI k)] w (g_is none w) := by
  refine g_Ct.of (by decide +kernel) (lb rfl) ?_
  refine w_iload_n dX6_requireSize_0 rfl ?_
  refine w_if_lt (tgt := 10) dX6_requireSize_1 (by decide) (fun c_1 => absurd c_1 ((nI_pos (by omega)))) (fun c_1 => ?_)
  refine w_iload_n dX6_requireSize_4 rfl ?_
  refine w_bipush (v := 15) dX6_requireSize_5 (by decide) ?_
  refine w_icmp_le (tgt := 21) dX6_requireSize_7 (by decide) (fun c_7 => ?_) (fun c_7 => absurd ((nI_le (a := k) (b := 15) (by omega) (by omega))) c_7)
  refine w_vret dX6_requireSize_21 rfl ⟨rfl, rfl⟩ (by decide) (by decide)
set_option maxRecDepth 100000 in
theorem c_requireSize_x {x : Int32} (hx : x < 0 ∨ ¬ x < nI 16) : g_Ct E l mX6_requireSize 6 90 1 6 [.int x] (I, J, R, D, N, ex) (g_ths "java/lang/IllegalArgumentException" (I, J, R, D, N, false)) := by
  refine g_Ct.of (by decide +kernel) (lb rfl) ?_
  refine w_iload_n dX6_requireSize_0 rfl ?_
  refine w_if_lt (tgt := 10) dX6_requireSize_1 (by decide) (fun c_1 => ?_) (fun c_1 => ?_)
  · refine w_throwW (X := "java/lang/IllegalArgumentException") (tx := "size is out of range") rfl rfl (by decide +kernel) (by decide +kernel) dX6_requireSize_10 dX6_requireSize_13 dX6_requireSize_14 dX6_requireSize_17 dX6_requireSize_20 (by decide) (lb rfl) (by decide) (by decide) (by decide) (by decide) ⟨rfl, rfl⟩
  · refine w_iload_n dX6_requireSize_4 rfl ?_
    refine w_bipush (v := 15) dX6_requireSize_5 (by decide) ?_
    refine w_icmp_le (tgt := 21) dX6_requireSize_7 (by decide) (fun c_7 => absurd c_7 ((i_hi (m := 15) (by omega) hx c_1))) (fun c_7 => ?_)
    refine w_throwW (X := "java/lang/IllegalArgumentException") (tx := "size is out of range") rfl rfl (by decide +kernel) (by decide +kernel) dX6_requireSize_10 dX6_requireSize_13 dX6_requireSize_14 dX6_requireSize_17 dX6_requireSize_20 (by decide) (lb rfl) (by decide) (by decide) (by decide) (by decide) ⟨rfl, rfl⟩
set_option maxRecDepth 100000 in
theorem c_setSize (hl : lk R N sw) (h : rC I J sw A n) {k : Nat} (hk : k < A.st.hs.length) {z : Nat} (hz : z < 16) : g_Ct E l mX6_setSize 7 111 0 0 [.ref 0, .int (nI k), .int (nI z)] (I, J, R, D, N, ex) (g_ri (fun x I' => x = nI (A.st.sz k) ∧ frM I I' ∧ rC I' J sw (A.rec (A.st.put k z)) n) J R D N ex) := by
  refine g_Ct.of (by decide +kernel) (lb rfl) ?_
  have hN := hl.2.2.2.2.2.2.2.2.2.2.2.2.2.2.2.2
  have hg := hl.1
  have hgm := gm_b sw
  have hok := h.2.2.2.2.1
  have h4 := hok.1
  refine w_aload_n dX6_setSize_0 rfl ?_
  refine w_iload_n dX6_setSize_1 rfl ?_
  refine z_callV dX6_setSize_2 lk_X6_171 [.int (nI k)] rfl (c_requireHeap E l hl h hk) (g_recv.obj (ci := 6) rfl (by decide) (show 0 < N by omega)) rfl ⟨⟨by decide, by decide⟩, by decide, by decide⟩ (lb rfl) ?_
  refine w_iload_n dX6_setSize_5 rfl ?_
  refine z_callS dX6_setSize_6 lk_X6_262 [.int (nI z)] rfl (c_requireSize E l _ hz) rfl ⟨⟨by decide, by decide⟩, by decide, by decide⟩ (lb rfl) ?_
  refine w_aload_n dX6_setSize_9 rfl ?_
  refine x_getr (ci := 6) (k := 3) (a := 51) dX6_setSize_10 rfl (by decide) (by decide) (by omega) fl_X6_33 (Or.inl ⟨_, rfl⟩) hl.2.2.2.2.2.2.2.1 ?_
  refine w_aload_n dX6_setSize_13 rfl ?_
  refine x_getr (ci := 6) (k := 0) (a := gm sw) dX6_setSize_14 rfl (by decide) (by decide) (by omega) fl_X6_12 (Or.inl ⟨_, rfl⟩) hl.2.2.2.2.1 ?_
  refine x_getr (ci := 0) (k := 3) (a := gm sw + 2) dX6_setSize_17 hg.1 (by decide) (by decide) (by omega) fl_X6_85 (Or.inl ⟨_, rfl⟩) hg.2.2.2.2.1 ?_
  refine u_callV dX6_setSize_20 lk_X6_265 [.ref (gm sw + 2)] rfl (c_rem E l hl h) (g_recv.obj (ci := 1) rfl (by decide) (show 51 < N by omega)) rfl ⟨⟨by decide, by decide⟩, by decide, by decide⟩ (lb rfl) (fun I' h_20 => ?_)
  obtain ⟨f1, f2⟩ := h_20
  have hC := h.rec f1 f2
  have hst := hC.2.2.2.2.2.1
  refine w_aload_n dX6_setSize_23 rfl ?_
  refine w_iload_n dX6_setSize_24 rfl ?_
  refine y_callV dX6_setSize_25 lk_X6_174 [.int (nI k)] rfl (c_countersOf E l hl hC (show k < 4 by omega)) (g_recv.obj (ci := 6) rfl (by decide) (show 0 < N by omega)) rfl ⟨⟨by decide, by decide⟩, by decide, by decide⟩ (lb rfl) ?_
  refine w_istore_n dX6_setSize_28 (by decide) rfl ?_
  refine w_aload_n dX6_setSize_29 rfl ?_
  refine x_getr (ci := 6) (k := 0) (a := gm sw) dX6_setSize_30 rfl (by decide) (by decide) (by omega) fl_X6_12 (Or.inl ⟨_, rfl⟩) hl.2.2.2.2.1 ?_
  refine x_getr (ci := 0) (k := 3) (a := gm sw + 2) dX6_setSize_33 hg.1 (by decide) (by decide) (by omega) fl_X6_85 (Or.inl ⟨_, rfl⟩) hg.2.2.2.2.1 ?_
  refine w_aload_n dX6_setSize_36 rfl ?_
  refine x_getr (ci := 6) (k := 0) (a := gm sw) dX6_setSize_37 rfl (by decide) (by decide) (by omega) fl_X6_12 (Or.inl ⟨_, rfl⟩) hl.2.2.2.2.1 ?_
  refine x_getr (ci := 0) (k := 3) (a := gm sw + 2) dX6_setSize_40 hg.1 (by decide) (by decide) (by omega) fl_X6_85 (Or.inl ⟨_, rfl⟩) hg.2.2.2.2.1 ?_
  refine x_geti (ci := 4) (k := 2) dX6_setSize_43 hg.2.2.2.2.2.1.1 (by decide) (by decide) (by omega) fl_X6_92 rfl ?_
  rw [hst.2.2.1]
  refine w_iload_n dX6_setSize_46 rfl ?_
  refine w_iload_n dX6_setSize_47 rfl ?_
  refine y_callS dX6_setSize_48 lk_X6_216 [.int (nI A.st.pos), .int (nI k), .int (nI z)] rfl (c_withBits E l _ _ _ _) rfl ⟨⟨by decide, by decide⟩, by decide, by decide⟩ (lb rfl) ?_
  rw [with_nI (by omega) hz]
  refine x_puti (ci := 4) (k := 2) dX6_setSize_51 hg.2.2.2.2.2.1.1 (by decide) (by decide) (by omega) fl_X6_92 rfl rfl ?_
  refine w_iload_n dX6_setSize_54 rfl ?_
  refine w_iret dX6_setSize_55 rfl rfl ⟨_, _, rfl, ⟨rfl, f1.m.trans (fun o ho => by funext j; exact up2_n _ _ (by omega)), hC.st (s := A.st.put k z) (fun o p1 p2 => by funext j; exact up2_n _ _ (by omega)) (put_ok hok hk (by omega)) ⟨by rw [up2_n _ _ (by simp), put_len]; exact hst.1, by rw [up2_n _ _ (by simp), put_rs _ hk]; exact hst.2.1, by rw [up2_s, put_pos hok hk], by rw [up2_n _ _ (by simp)]; exact hst.2.2.2.1, by rw [up2_n _ _ (by simp)]; exact hst.2.2.2.2.1, fun i hi => by rw [up2_n _ _ (by simp)]; exact hst.2.2.2.2.2 i hi⟩⟩, rfl⟩ (by decide) (by decide)
set_option maxRecDepth 100000 in
theorem c_setSize_x1 (hl : lk R N sw) (h : rC I J sw A n) {x : Int32} (hx : x < 0 ∨ ¬ x < nI A.st.hs.length) (z : Int32) : g_Ct E l mX6_setSize 7 111 1 6 [.ref 0, .int x, .int z] (I, J, R, D, N, ex) (g_ths "java/lang/IndexOutOfBoundsException" (I, J, R, D, N, false)) := by
  refine g_Ct.of (by decide +kernel) (lb rfl) ?_
  have hN := hl.2.2.2.2.2.2.2.2.2.2.2.2.2.2.2.2
  refine w_aload_n dX6_setSize_0 rfl ?_
  refine w_iload_n dX6_setSize_1 rfl ?_
  refine t_callV dX6_setSize_2 lk_X6_171 [.int x] rfl (c_requireHeap_x E l hl h hx) (g_recv.obj (ci := 6) rfl (by decide) (show 0 < N by omega)) rfl ⟨⟨by decide, by decide⟩, by decide, by decide⟩ (lb rfl) (w_out rfl ⟨rfl, rfl⟩ (by decide) (by decide))
set_option maxRecDepth 100000 in
theorem c_setSize_x2 (hl : lk R N sw) (h : rC I J sw A n) {k : Nat} (hk : k < A.st.hs.length) {z : Int32} (hz : z < 0 ∨ ¬ z < nI 16) : g_Ct E l mX6_setSize 7 111 1 6 [.ref 0, .int (nI k), .int z] (I, J, R, D, N, ex) (g_ths "java/lang/IllegalArgumentException" (I, J, R, D, N, false)) := by
  refine g_Ct.of (by decide +kernel) (lb rfl) ?_
  have hN := hl.2.2.2.2.2.2.2.2.2.2.2.2.2.2.2.2
  refine w_aload_n dX6_setSize_0 rfl ?_
  refine w_iload_n dX6_setSize_1 rfl ?_
  refine z_callV dX6_setSize_2 lk_X6_171 [.int (nI k)] rfl (c_requireHeap E l hl h hk) (g_recv.obj (ci := 6) rfl (by decide) (show 0 < N by omega)) rfl ⟨⟨by decide, by decide⟩, by decide, by decide⟩ (lb rfl) ?_
  refine w_iload_n dX6_setSize_5 rfl ?_
  refine t_callS dX6_setSize_6 lk_X6_262 [.int z] rfl (c_requireSize_x E l hz) rfl ⟨⟨by decide, by decide⟩, by decide, by decide⟩ (lb rfl) (w_out rfl ⟨rfl, rfl⟩ (by decide) (by decide))
set_option maxRecDepth 100000 in
theorem c_setPasses (hl : lk R N sw) (h : rC I J sw A n) {p : Nat} (hp : p < 4) : g_Ct E l mX6_setPasses 6 102 0 0 [.ref 0, .int (nI p)] (I, J, R, D, N, ex) (g_ri (fun x I' => x = nI A.st.ps ∧ frM I I' ∧ rC I' J sw (A.rec (A.st.pas p)) n) J R D N ex) := by
  refine g_Ct.of (by decide +kernel) (lb rfl) ?_
  have hN := hl.2.2.2.2.2.2.2.2.2.2.2.2.2.2.2.2
  have hg := hl.1
  have hgm := gm_b sw
  have hok := h.2.2.2.2.1
  have hpk := hok.pk
  have hps := hok.2.2.1
  have key : nI A.st.pos + (nI p - nI A.st.ps) * 65536 = nI (A.st.pas p).pos := by
    have e1 : nI A.st.pos = nI (pk4 A.st.zs) + nI A.st.ps * 65536 := by rw [show (65536 : Int32) = nI 65536 from rfl, pk_mul, nI_add]; unfold St.pos; congr 1; omega
    have e2 : nI (A.st.pas p).pos = nI (pk4 A.st.zs) + nI p * 65536 := by rw [show (65536 : Int32) = nI 65536 from rfl, pk_mul, nI_add]; show nI (pk4 A.st.zs + 2 ^ 16 * p) = _; congr 1; omega
    rw [e1, e2, Int32.sub_mul, Int32.add_assoc, Int32.add_comm (nI A.st.ps * 65536), Int32.sub_add_cancel]
  refine w_iload_n dX6_setPasses_0 rfl ?_
  refine w_if_lt (tgt := 9) dX6_setPasses_1 (by decide) (fun c_1 => absurd c_1 ((nI_pos (by omega)))) (fun c_1 => ?_)
  refine w_iload_n dX6_setPasses_4 rfl ?_
  refine w_iconst (v := 3) dX6_setPasses_5 (by decide) ?_
  refine w_icmp_le (tgt := 20) dX6_setPasses_6 (by decide) (fun c_6 => ?_) (fun c_6 => absurd ((nI_le (a := p) (b := 3) (by omega) (by omega))) c_6)
  refine w_aload_n dX6_setPasses_20 rfl ?_
  refine x_getr (ci := 6) (k := 3) (a := 51) dX6_setPasses_21 rfl (by decide) (by decide) (by omega) fl_X6_33 (Or.inl ⟨_, rfl⟩) hl.2.2.2.2.2.2.2.1 ?_
  refine w_aload_n dX6_setPasses_24 rfl ?_
  refine x_getr (ci := 6) (k := 0) (a := gm sw) dX6_setPasses_25 rfl (by decide) (by decide) (by omega) fl_X6_12 (Or.inl ⟨_, rfl⟩) hl.2.2.2.2.1 ?_
  refine x_getr (ci := 0) (k := 3) (a := gm sw + 2) dX6_setPasses_28 hg.1 (by decide) (by decide) (by omega) fl_X6_85 (Or.inl ⟨_, rfl⟩) hg.2.2.2.2.1 ?_
  refine u_callV dX6_setPasses_31 lk_X6_265 [.ref (gm sw + 2)] rfl (c_rem E l hl h) (g_recv.obj (ci := 1) rfl (by decide) (show 51 < N by omega)) rfl ⟨⟨by decide, by decide⟩, by decide, by decide⟩ (lb rfl) (fun I' h_31 => ?_)
  obtain ⟨f1, f2⟩ := h_31
  have hC := h.rec f1 f2
  have hst := hC.2.2.2.2.2.1
  have hst2 : I' (gm sw + 2) 2 = nI A.st.pos := hst.2.2.1
  refine w_aload_n dX6_setPasses_34 rfl ?_
  refine x_getr (ci := 6) (k := 0) (a := gm sw) dX6_setPasses_35 rfl (by decide) (by decide) (by omega) fl_X6_12 (Or.inl ⟨_, rfl⟩) hl.2.2.2.2.1 ?_
  refine x_getr (ci := 0) (k := 3) (a := gm sw + 2) dX6_setPasses_38 hg.1 (by decide) (by decide) (by omega) fl_X6_85 (Or.inl ⟨_, rfl⟩) hg.2.2.2.2.1 ?_
  refine x_geti (ci := 4) (k := 2) dX6_setPasses_41 hg.2.2.2.2.2.1.1 (by decide) (by decide) (by omega) fl_X6_92 rfl ?_
  rw [hst2]
  refine y_callS dX6_setPasses_44 lk_X6_95 [.int (nI A.st.pos)] rfl (c_passesOf E l _ _) rfl ⟨⟨by decide, by decide⟩, by decide, by decide⟩ (lb rfl) ?_
  rw [passes_nI (by have := hok.pos; omega), hok.ps]
  refine w_istore_n dX6_setPasses_47 (by decide) rfl ?_
  refine w_aload_n dX6_setPasses_48 rfl ?_
  refine x_getr (ci := 6) (k := 0) (a := gm sw) dX6_setPasses_49 rfl (by decide) (by decide) (by omega) fl_X6_12 (Or.inl ⟨_, rfl⟩) hl.2.2.2.2.1 ?_
  refine x_getr (ci := 0) (k := 3) (a := gm sw + 2) dX6_setPasses_52 hg.1 (by decide) (by decide) (by omega) fl_X6_85 (Or.inl ⟨_, rfl⟩) hg.2.2.2.2.1 ?_
  refine w_dup dX6_setPasses_55 rfl ?_
  refine x_geti (ci := 4) (k := 2) dX6_setPasses_56 hg.2.2.2.2.2.1.1 (by decide) (by decide) (by omega) fl_X6_92 rfl ?_
  rw [hst2]
  refine w_iload_n dX6_setPasses_59 rfl ?_
  refine w_iload_n dX6_setPasses_60 rfl ?_
  refine w_isub dX6_setPasses_61 ?_
  refine w_ldcw dX6_setPasses_62 kc_X6_259 ?_
  refine w_imul dX6_setPasses_65 ?_
  refine w_iadd dX6_setPasses_66 ?_
  rw [key]
  refine x_puti (ci := 4) (k := 2) dX6_setPasses_67 hg.2.2.2.2.2.1.1 (by decide) (by decide) (by omega) fl_X6_92 rfl rfl ?_
  refine w_iload_n dX6_setPasses_70 rfl ?_
  refine w_iret dX6_setPasses_71 rfl rfl ⟨_, _, rfl, ⟨rfl, f1.m.trans (fun o ho => by funext j; exact up2_n _ _ (by omega)), hC.st (s := A.st.pas p) (fun o p1 p2 => by funext j; exact up2_n _ _ (by omega)) ⟨hok.1, hok.2.1, (by omega : p ≤ 3), hok.2.2.2⟩ ⟨by rw [up2_n _ _ (by simp)]; exact hst.1, by rw [up2_n _ _ (by simp)]; exact hst.2.1, by rw [up2_s], by rw [up2_n _ _ (by simp)]; exact hst.2.2.2.1, by rw [up2_n _ _ (by simp)]; exact hst.2.2.2.2.1, fun i hi => by rw [up2_n _ _ (by simp)]; exact hst.2.2.2.2.2 i hi⟩⟩, rfl⟩ (by decide) (by decide)
set_option maxRecDepth 100000 in
theorem c_setPasses_x {x : Int32} (hx : x < 0 ∨ ¬ x < nI 4) : g_Ct E l mX6_setPasses 6 102 1 6 [.ref 0, .int x] (I, J, R, D, N, ex) (g_ths "java/lang/IllegalArgumentException" (I, J, R, D, N, false)) := by
  refine g_Ct.of (by decide +kernel) (lb rfl) ?_
  refine w_iload_n dX6_setPasses_0 rfl ?_
  refine w_if_lt (tgt := 9) dX6_setPasses_1 (by decide) (fun c_1 => ?_) (fun c_1 => ?_)
  · refine w_throwW (X := "java/lang/IllegalArgumentException") (tx := "passes is out of range") rfl rfl (by decide +kernel) (by decide +kernel) dX6_setPasses_9 dX6_setPasses_12 dX6_setPasses_13 dX6_setPasses_16 dX6_setPasses_19 (by decide) (lb rfl) (by decide) (by decide) (by decide) (by decide) ⟨rfl, rfl⟩
  · refine w_iload_n dX6_setPasses_4 rfl ?_
    refine w_iconst (v := 3) dX6_setPasses_5 (by decide) ?_
    refine w_icmp_le (tgt := 20) dX6_setPasses_6 (by decide) (fun c_6 => absurd c_6 ((i_hi (m := 3) (by omega) hx c_1))) (fun c_6 => ?_)
    refine w_throwW (X := "java/lang/IllegalArgumentException") (tx := "passes is out of range") rfl rfl (by decide +kernel) (by decide +kernel) dX6_setPasses_9 dX6_setPasses_12 dX6_setPasses_13 dX6_setPasses_16 dX6_setPasses_19 (by decide) (lb rfl) (by decide) (by decide) (by decide) (by decide) ⟨rfl, rfl⟩
set_option maxRecDepth 100000 in
theorem c_setMisere (hl : lk R N sw) (h : rC I J sw A n) (b : Bool) : g_Ct E l mX6_setMisere 3 102 0 0 [.ref 0, .int (b2i b)] (I, J, R, D, N, ex) (g_ri (fun x I' => x = b2i A.st.mi ∧ frM I I' ∧ rC I' J sw (A.rec (A.st.mis b)) n) J R D N ex) := by
  refine g_Ct.of (by decide +kernel) (lb rfl) ?_
  have hN := hl.2.2.2.2.2.2.2.2.2.2.2.2.2.2.2.2
  have hg := hl.1
  have hgm := gm_b sw
  have hok := h.2.2.2.2.1
  refine w_aload_n dX6_setMisere_0 rfl ?_
  refine x_getr (ci := 6) (k := 3) (a := 51) dX6_setMisere_1 rfl (by decide) (by decide) (by omega) fl_X6_33 (Or.inl ⟨_, rfl⟩) hl.2.2.2.2.2.2.2.1 ?_
  refine w_aload_n dX6_setMisere_4 rfl ?_
  refine x_getr (ci := 6) (k := 0) (a := gm sw) dX6_setMisere_5 rfl (by decide) (by decide) (by omega) fl_X6_12 (Or.inl ⟨_, rfl⟩) hl.2.2.2.2.1 ?_
  refine x_getr (ci := 0) (k := 3) (a := gm sw + 2) dX6_setMisere_8 hg.1 (by decide) (by decide) (by omega) fl_X6_85 (Or.inl ⟨_, rfl⟩) hg.2.2.2.2.1 ?_
  refine u_callV dX6_setMisere_11 lk_X6_265 [.ref (gm sw + 2)] rfl (c_rem E l hl h) (g_recv.obj (ci := 1) rfl (by decide) (show 51 < N by omega)) rfl ⟨⟨by decide, by decide⟩, by decide, by decide⟩ (lb rfl) (fun I' h_11 => ?_)
  obtain ⟨f1, f2⟩ := h_11
  have hC := h.rec f1 f2
  have hst := hC.2.2.2.2.2.1
  have hst3 : I' (gm sw + 2) 3 = b2i A.st.mi := hst.2.2.2.1
  refine w_aload_n dX6_setMisere_14 rfl ?_
  refine x_getr (ci := 6) (k := 0) (a := gm sw) dX6_setMisere_15 rfl (by decide) (by decide) (by omega) fl_X6_12 (Or.inl ⟨_, rfl⟩) hl.2.2.2.2.1 ?_
  refine x_getr (ci := 0) (k := 3) (a := gm sw + 2) dX6_setMisere_18 hg.1 (by decide) (by decide) (by omega) fl_X6_85 (Or.inl ⟨_, rfl⟩) hg.2.2.2.2.1 ?_
  refine x_getz (ci := 4) (k := 3) dX6_setMisere_21 hg.2.2.2.2.2.1.1 (by decide) (by decide) (by omega) fl_X6_102 rfl ?_
  rw [hst3]
  refine w_istore_n dX6_setMisere_24 (by decide) rfl ?_
  refine w_aload_n dX6_setMisere_25 rfl ?_
  refine x_getr (ci := 6) (k := 0) (a := gm sw) dX6_setMisere_26 rfl (by decide) (by decide) (by omega) fl_X6_12 (Or.inl ⟨_, rfl⟩) hl.2.2.2.2.1 ?_
  refine x_getr (ci := 0) (k := 3) (a := gm sw + 2) dX6_setMisere_29 hg.1 (by decide) (by decide) (by omega) fl_X6_85 (Or.inl ⟨_, rfl⟩) hg.2.2.2.2.1 ?_
  refine w_iload_n dX6_setMisere_32 rfl ?_
  refine x_putz (ci := 4) (k := 3) dX6_setMisere_33 hg.2.2.2.2.2.1.1 (by decide) (by decide) (by omega) fl_X6_102 rfl rfl (b2i_01 b) ?_
  refine w_iload_n dX6_setMisere_36 rfl ?_
  refine w_iret dX6_setMisere_37 rfl (nz_b _) ⟨_, _, rfl, ⟨rfl, f1.m.trans (fun o ho => by funext j; exact up2_n _ _ (by omega)), hC.st (s := A.st.mis b) (fun o p1 p2 => by funext j; exact up2_n _ _ (by omega)) hok ⟨by rw [up2_n _ _ (by simp)]; exact hst.1, by rw [up2_n _ _ (by simp)]; exact hst.2.1, by rw [up2_n _ _ (by simp)]; exact hst.2.2.1, by rw [up2_s]; rfl, by rw [up2_n _ _ (by simp)]; exact hst.2.2.2.2.1, fun i hi => by rw [up2_n _ _ (by simp)]; exact hst.2.2.2.2.2 i hi⟩⟩, rfl⟩ (by decide) (by decide)
set_option maxRecDepth 100000 in
theorem c_addHeap (hl : lk R N sw) (h : rC I J sw A n) {r z : Nat} (hr : r < A.nr) (hz : z < 16) (hs : A.st.hs.length < 4) : g_Ct E l mX6_addHeap 7 111 0 0 [.ref 0, .int (nI r), .int (nI z)] (I, J, R, D, N, ex) (g_ri (fun x I' => x = nI A.st.hs.length ∧ frM I I' ∧ rC I' J sw (A.rec (A.st.app r z)) n) J R D N ex) := by
  refine g_Ct.of (by decide +kernel) (lb rfl) ?_
  have hN := hl.2.2.2.2.2.2.2.2.2.2.2.2.2.2.2.2
  have hg := hl.1
  have hgm := gm_b sw
  have hok := h.2.2.2.2.1
  have hnr := h.1.2
  have hrs := hok.rs hnr
  have e1 : s_with (nI (pk4 A.st.rs)) (nI A.st.hs.length) (nI r) = nI (pk4 (A.st.rs ++ [r])) := by
    rw [with_nI hs (by omega)]
    have := pk4_app (p := 0) (b := r) hrs.lt (by rw [St.rs_len]; exact hs)
    rw [St.rs_len] at this
    exact congrArg nI this
  have e2 : s_with (nI A.st.pos) (nI A.st.hs.length) (nI z) = nI (pk4 (A.st.zs ++ [z]) + 2 ^ 16 * A.st.ps) := by
    rw [with_nI hs (by omega)]
    have := pk4_app (p := A.st.ps) (b := z) hok.zs (by rw [St.zs_len]; exact hs)
    rw [St.zs_len] at this
    exact congrArg nI this
  have hok2 : stOK A.nr (A.st.app r z) := by
    refine ⟨?_, fun x hx => ?_, hok.2.2⟩
    · show (A.st.hs ++ [(r, z)]).length ≤ 4
      rw [List.length_append, List.length_singleton]
      omega
    · have hx' : x ∈ A.st.hs ++ [(r, z)] := hx
      rw [List.mem_append, List.mem_singleton] at hx'
      rcases hx' with q | q
      · exact hok.2.1 x q
      · rw [q]; exact ⟨hr, (by omega : z ≤ 15)⟩
  refine w_aload_n dX6_addHeap_0 rfl ?_
  refine w_iload_n dX6_addHeap_1 rfl ?_
  refine y_callV dX6_addHeap_2 lk_X6_124 [.int (nI r)] rfl (c_requireRule E l hl h hr) (g_recv.obj (ci := 6) rfl (by decide) (show 0 < N by omega)) rfl ⟨⟨by decide, by decide⟩, by decide, by decide⟩ (lb rfl) ?_
  refine w_pop dX6_addHeap_5 rfl ?_
  refine w_iload_n dX6_addHeap_6 rfl ?_
  refine z_callS dX6_addHeap_7 lk_X6_262 [.int (nI z)] rfl (c_requireSize E l _ hz) rfl ⟨⟨by decide, by decide⟩, by decide, by decide⟩ (lb rfl) ?_
  refine w_aload_n dX6_addHeap_10 rfl ?_
  refine x_getr (ci := 6) (k := 0) (a := gm sw) dX6_addHeap_11 rfl (by decide) (by decide) (by omega) fl_X6_12 (Or.inl ⟨_, rfl⟩) hl.2.2.2.2.1 ?_
  refine x_getr (ci := 0) (k := 3) (a := gm sw + 2) dX6_addHeap_14 hg.1 (by decide) (by decide) (by omega) fl_X6_85 (Or.inl ⟨_, rfl⟩) hg.2.2.2.2.1 ?_
  refine x_geti (ci := 4) (k := 0) dX6_addHeap_17 hg.2.2.2.2.2.1.1 (by decide) (by decide) (by omega) fl_X6_89 rfl ?_
  rw [h.2.2.2.2.2.1.1]
  refine w_iconst (v := 4) dX6_addHeap_20 (by decide) ?_
  refine w_icmp_lt (tgt := 35) dX6_addHeap_21 (by decide) (fun c_21 => ?_) (fun c_21 => absurd ((nI_lt (a := A.st.hs.length) (b := 4) (by omega) (by omega))) c_21)
  refine w_aload_n dX6_addHeap_35 rfl ?_
  refine x_getr (ci := 6) (k := 3) (a := 51) dX6_addHeap_36 rfl (by decide) (by decide) (by omega) fl_X6_33 (Or.inl ⟨_, rfl⟩) hl.2.2.2.2.2.2.2.1 ?_
  refine w_aload_n dX6_addHeap_39 rfl ?_
  refine x_getr (ci := 6) (k := 0) (a := gm sw) dX6_addHeap_40 rfl (by decide) (by decide) (by omega) fl_X6_12 (Or.inl ⟨_, rfl⟩) hl.2.2.2.2.1 ?_
  refine x_getr (ci := 0) (k := 3) (a := gm sw + 2) dX6_addHeap_43 hg.1 (by decide) (by decide) (by omega) fl_X6_85 (Or.inl ⟨_, rfl⟩) hg.2.2.2.2.1 ?_
  refine u_callV dX6_addHeap_46 lk_X6_265 [.ref (gm sw + 2)] rfl (c_rem E l hl h) (g_recv.obj (ci := 1) rfl (by decide) (show 51 < N by omega)) rfl ⟨⟨by decide, by decide⟩, by decide, by decide⟩ (lb rfl) (fun I' h_46 => ?_)
  obtain ⟨f1, f2⟩ := h_46
  have hC := h.rec f1 f2
  have hst := hC.2.2.2.2.2.1
  have hst1 : I' (gm sw + 2) 1 = nI (pk4 A.st.rs) := hst.2.1
  have hst2 : I' (gm sw + 2) 2 = nI A.st.pos := hst.2.2.1
  refine w_aload_n dX6_addHeap_49 rfl ?_
  refine x_getr (ci := 6) (k := 0) (a := gm sw) dX6_addHeap_50 rfl (by decide) (by decide) (by omega) fl_X6_12 (Or.inl ⟨_, rfl⟩) hl.2.2.2.2.1 ?_
  refine x_getr (ci := 0) (k := 3) (a := gm sw + 2) dX6_addHeap_53 hg.1 (by decide) (by decide) (by omega) fl_X6_85 (Or.inl ⟨_, rfl⟩) hg.2.2.2.2.1 ?_
  refine w_iload_n dX6_addHeap_56 rfl ?_
  refine w_iload_n dX6_addHeap_57 rfl ?_
  refine v_callV dX6_addHeap_58 lk_X6_273 [.int (nI r), .int (nI z)] rfl (c_addLast E l hg.2.2.2.2.2.1 (h := A.st.hs.length) hst.1 (nI r) (nI z)) (g_recv.obj (ci := 4) hg.2.2.2.2.2.1.1 (by decide) (show gm sw + 2 < N by omega)) rfl ⟨⟨by decide, by decide⟩, by decide, by decide⟩ (lb rfl) (fun x_58 I2 h_58 => ?_)
  obtain ⟨g0, g1, g2, g3, g4, g5, g6⟩ := h_58
  refine w_iret dX6_addHeap_61 rfl rfl ⟨_, _, rfl, ⟨g0, f1.m.trans (fun o ho => g1 o (by omega)), hC.st (s := A.st.app r z) (fun o p1 p2 => g1 o p1) hok2 ⟨by rw [g2]; show _ = nI (A.st.hs ++ [(r, z)]).length; rw [List.length_append]; rfl, by rw [g3, hst1, e1]; exact congrArg (fun x => nI (pk4 x)) (app_rs A.st r z).symm, by rw [g4, hst2, e2]; show _ = nI (pk4 (St.zs (A.st.hs ++ [(r, z)], A.st.ps, A.st.mi, A.st.pl)) + 2 ^ 16 * A.st.ps); rw [app_zs], by rw [g5]; exact hst.2.2.2.1, by rw [g6]; exact hst.2.2.2.2.1, fun i hi => by rw [g1 _ (by omega)]; exact hst.2.2.2.2.2 i hi⟩⟩, rfl⟩ (by decide) (by decide)
end FM
