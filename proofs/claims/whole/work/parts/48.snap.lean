/-! HeapGames: snapshots, append, checksum -/
theorem rC.txt {I I' : Nat → Nat → Int32} {J : Nat → Nat → Int64} {sw : Bool} {A : AS} {n : Nat} (h : rC I J sw A n) (f : ∀ o, o ≠ 23 → o ≠ 24 → I' o = I o) {tx : Nat → Nat} {tl : Nat} (ht : txC I' tx tl) : rC I' J sw (A.ru, A.nr, A.st, A.hi, A.sn, tx, tl) n := by
  have hg := gm_b sw
  have hd := dg_b sw
  obtain ⟨h1, h2, h3, h4, h5, h6, h7, h8, h9, h10, h11⟩ := h
  have e : ∀ o, o ≠ 23 → o ≠ 24 → I' o = I o := f
  have hk6 : A.nr ≤ 6 := h1.2
  refine ⟨⟨by rw [e _ (by omega) (by omega)]; exact h1.1, h1.2⟩, h2, ⟨by rw [e _ (by omega) (by omega)]; exact h3.1, fun k hk => ?_⟩, fun k hk m hm => ?_, h5, h6.fr (e _ (by omega) (by omega)) (e _ (by omega) (by omega)), fun k hk => ?_, ?_, h9.fr (fun o a b => e o (by omega) (by omega)), fun k hk => ?_, ht⟩
  · rw [e _ (by omega) (by omega)]; exact h3.2 k hk
  · have hk' : k < A.nr := hk
    rw [e _ (by omega) (by omega)]; exact h4 k hk m hm
  · rw [e _ (by omega) (by omega)]; exact h7 k hk
  · obtain ⟨st, T, q1, q2, q3, q4⟩ := h8
    have e47 := e 47 (by omega) (by omega)
    have e48 := e 48 (by omega) (by omega)
    have e49 := e 49 (by omega) (by omega)
    refine ⟨st, T, q1, by rw [e47]; exact q2, fun p hp => by rw [e48]; exact q3 p hp, ?_⟩
    rcases q4 with q4 | ⟨rs, mi, r1, r2, r3, r4⟩
    · exact Or.inl (by rw [e47]; exact q4)
    · refine Or.inr ⟨rs, mi, r1, by rw [e47]; exact r2, ?_, ?_⟩
      · obtain ⟨s1, ⟨t, s2, s3⟩, s4, s5⟩ := r3
        exact ⟨by rw [e47]; exact s1, ⟨t, by rw [e47]; exact s2, s3⟩, by rw [e47]; exact s4, fun h hh n hn => by rw [e49]; exact s5 h hh n hn⟩
      · obtain ⟨⟨s1, s2, s3, s4⟩, s5⟩ := r4
        exact ⟨⟨by rw [e47]; exact s1, s2, s3, fun p hp => by rw [e48]; exact s4 p hp⟩, s5⟩
  · rw [e 74 (by omega) (by omega)]
    exact ⟨(h10 k hk).1, fun s hs => ⟨((h10 k hk).2 s hs).1, ((h10 k hk).2 s hs).2.fr (e _ (by omega) (by omega)) (e _ (by omega) (by omega))⟩⟩
def AS.sav (A : AS) (k : Nat) : AS := (A.ru, A.nr, A.st, A.hi, (fun j => if j = k then some A.st else A.sn j), A.tx, A.tl)
theorem rC.snp {I I' : Nat → Nat → Int32} {J : Nat → Nat → Int64} {sw : Bool} {A : AS} {n : Nat} (h : rC I J sw A n) (f : ∀ o, o < 74 ∨ 78 < o → I' o = I o) {sn : Nat → Option St} (ht : snC I' A.nr sn) : rC I' J sw (A.ru, A.nr, A.st, A.hi, sn, A.tx, A.tl) n := by
  have hg := gm_b sw
  have hd := dg_b sw
  obtain ⟨h1, h2, h3, h4, h5, h6, h7, h8, h9, h10, h11⟩ := h
  have e : ∀ o, o < 74 → I' o = I o := fun o ho => f o (Or.inl ho)
  have hk6 : A.nr ≤ 6 := h1.2
  refine ⟨⟨by rw [e _ (by omega)]; exact h1.1, h1.2⟩, h2, ⟨by rw [e _ (by omega)]; exact h3.1, fun k hk => ?_⟩, fun k hk m hm => ?_, h5, h6.fr (e _ (by omega)) (e _ (by omega)), fun k hk => ?_, ?_, h9.fr (fun o a b => e o (by omega)), ht, ?_⟩
  · rw [e _ (by omega)]; exact h3.2 k hk
  · have hk' : k < A.nr := hk
    rw [e _ (by omega)]; exact h4 k hk m hm
  · rw [e _ (by omega)]; exact h7 k hk
  · obtain ⟨st, T, q1, q2, q3, q4⟩ := h8
    have e47 := e 47 (by omega)
    have e48 := e 48 (by omega)
    have e49 := e 49 (by omega)
    refine ⟨st, T, q1, by rw [e47]; exact q2, fun p hp => by rw [e48]; exact q3 p hp, ?_⟩
    rcases q4 with q4 | ⟨rs, mi, r1, r2, r3, r4⟩
    · exact Or.inl (by rw [e47]; exact q4)
    · refine Or.inr ⟨rs, mi, r1, by rw [e47]; exact r2, ?_, ?_⟩
      · obtain ⟨s1, ⟨t, s2, s3⟩, s4, s5⟩ := r3
        exact ⟨by rw [e47]; exact s1, ⟨t, by rw [e47]; exact s2, s3⟩, by rw [e47]; exact s4, fun h hh n hn => by rw [e49]; exact s5 h hh n hn⟩
      · obtain ⟨⟨s1, s2, s3, s4⟩, s5⟩ := r4
        exact ⟨⟨by rw [e47]; exact s1, s2, s3, fun p hp => by rw [e48]; exact s4 p hp⟩, s5⟩
  · unfold txC
    rw [e 23 (by omega), e 24 (by omega)]
    exact h11
section FO
variable (E : GE) (l : Launch)
variable {I : Nat → Nat → Int32} {J : Nat → Nat → Int64} {R : Nat → Nat → Option Nat} {D : Nat → Nat → UInt64} {N : Nat} {ex : Bool} {sw : Bool} {A : AS} {n s : Nat}
set_option maxRecDepth 100000 in
theorem c_requireSlot (w : GW) {k : Nat} (hk : k < 2) : g_Ct E l mX6_requireSlot 6 90 0 0 [.int (nI k)] w (g_is none w) := by
  refine g_Ct.of (by decide +kernel) (lb rfl) ?_
  refine w_iload_n dX6_requireSlot_0 rfl ?_
  refine w_if_lt (tgt := 9) dX6_requireSlot_1 (by decide) (fun c_1 => absurd c_1 ((nI_pos (by omega)))) (fun c_1 => ?_)
  refine w_iload_n dX6_requireSlot_4 rfl ?_
  refine w_iconst (v := 2) dX6_requireSlot_5 (by decide) ?_
  refine w_icmp_lt (tgt := 20) dX6_requireSlot_6 (by decide) (fun c_6 => ?_) (fun c_6 => absurd ((nI_lt (a := k) (b := 2) (by omega) (by omega))) c_6)
  refine w_vret dX6_requireSlot_20 rfl ⟨rfl, rfl⟩ (by decide) (by decide)
set_option maxRecDepth 100000 in
theorem c_requireSlot_x {x : Int32} (hx : x < 0 ∨ ¬ x < nI 2) : g_Ct E l mX6_requireSlot 6 90 1 6 [.int x] (I, J, R, D, N, ex) (g_ths "java/lang/IllegalArgumentException" (I, J, R, D, N, false)) := by
  refine g_Ct.of (by decide +kernel) (lb rfl) ?_
  refine w_iload_n dX6_requireSlot_0 rfl ?_
  refine w_if_lt (tgt := 9) dX6_requireSlot_1 (by decide) (fun c_1 => ?_) (fun c_1 => ?_)
  · refine w_throwW (X := "java/lang/IllegalArgumentException") (tx := "there is no such slot") rfl rfl (by decide +kernel) (by decide +kernel) dX6_requireSlot_9 dX6_requireSlot_12 dX6_requireSlot_13 dX6_requireSlot_16 dX6_requireSlot_19 (by decide) (lb rfl) (by decide) (by decide) (by decide) (by decide) ⟨rfl, rfl⟩
  · refine w_iload_n dX6_requireSlot_4 rfl ?_
    refine w_iconst (v := 2) dX6_requireSlot_5 (by decide) ?_
    refine w_icmp_lt (tgt := 20) dX6_requireSlot_6 (by decide) (fun c_6 => absurd c_6 ((by rcases hx with y | y; exact absurd y c_1; exact y))) (fun c_6 => ?_)
    refine w_throwW (X := "java/lang/IllegalArgumentException") (tx := "there is no such slot") rfl rfl (by decide +kernel) (by decide +kernel) dX6_requireSlot_9 dX6_requireSlot_12 dX6_requireSlot_13 dX6_requireSlot_16 dX6_requireSlot_19 (by decide) (lb rfl) (by decide) (by decide) (by decide) (by decide) ⟨rfl, rfl⟩
theorem lk_sn (hl : lk R N sw) {k : Nat} (hk : k < 2) : R 73 k = some (75 + 2 * k) ∧ isS R N (75 + 2 * k) := by
  obtain ⟨_, _, _, _, _, _, _, _, _, _, _, _, h1, h2, h3, h4, _⟩ := hl
  rcases (show k = 0 ∨ k = 1 by omega) with rfl | rfl
  · exact ⟨h1, h3⟩
  · exact ⟨h2, h4⟩
set_option maxRecDepth 100000 in
theorem c_saveSnapshot (hl : lk R N sw) (h : rC I J sw A n) {k : Nat} (hk : k < 2) : g_Ct E l mX6_saveSnapshot 7 110 0 0 [.ref 0, .int (nI k)] (I, J, R, D, N, ex) (g_ri (fun x I' => x = b2i (A.sn k).isSome ∧ frM I I' ∧ rC I' J sw (A.sav k) n) J R D N ex) := by
  refine g_Ct.of (by decide +kernel) (lb rfl) ?_
  have hN := hl.2.2.2.2.2.2.2.2.2.2.2.2.2.2.2.2
  have hg := hl.1
  have hgm := gm_b sw
  have hst := h.2.2.2.2.2.1
  have hok := h.2.2.2.2.1
  have hsn := h.2.2.2.2.2.2.2.2.2.1
  obtain ⟨r1, r2⟩ := lk_sn hl hk
  refine w_iload_n dX6_saveSnapshot_0 rfl ?_
  refine z_callS dX6_saveSnapshot_1 lk_X6_287 [.int (nI k)] rfl (c_requireSlot E l _ hk) rfl ⟨⟨by decide, by decide⟩, by decide, by decide⟩ (lb rfl) ?_
  refine w_aload_n dX6_saveSnapshot_4 rfl ?_
  refine x_getr (ci := 6) (k := 5) (a := 74) dX6_saveSnapshot_5 rfl (by decide) (by decide) (by omega) fl_X6_43 (Or.inr ⟨_, rfl⟩) hl.2.2.2.2.2.2.2.2.2.1 ?_
  refine w_iload_n dX6_saveSnapshot_8 rfl ?_
  refine x_zald (j := k) dX6_saveSnapshot_9 rfl (by omega) rfl (show k < 2 from hk) ?_
  rw [(hsn k hk).1]
  refine w_istore_n dX6_saveSnapshot_10 (by decide) rfl ?_
  refine w_aload_n dX6_saveSnapshot_11 rfl ?_
  refine x_getr (ci := 6) (k := 4) (a := 73) dX6_saveSnapshot_12 rfl (by decide) (by decide) (by omega) fl_X6_39 (Or.inr ⟨_, rfl⟩) hl.2.2.2.2.2.2.2.2.1 ?_
  refine w_iload_n dX6_saveSnapshot_15 rfl ?_
  refine x_aald14 (j := k) dX6_saveSnapshot_16 rfl (by omega) rfl (show k < 2 from hk) r1 ?_
  refine w_aload_n dX6_saveSnapshot_17 rfl ?_
  refine x_getr (ci := 6) (k := 0) (a := gm sw) dX6_saveSnapshot_18 rfl (by decide) (by decide) (by omega) fl_X6_12 (Or.inl ⟨_, rfl⟩) hl.2.2.2.2.1 ?_
  refine x_getr (ci := 0) (k := 3) (a := gm sw + 2) dX6_saveSnapshot_21 hg.1 (by decide) (by decide) (by omega) fl_X6_85 (Or.inl ⟨_, rfl⟩) hg.2.2.2.2.1 ?_
  refine u_callV dX6_saveSnapshot_24 lk_X6_290 [.ref (gm sw + 2)] rfl (c_copyFrom E l r2 hg.2.2.2.2.2.1 (by omega) (by rw [hst.2.2.2.1]; exact b2i_01 _)) (g_recv.obj (ci := 4) r2.1 (by decide) (show 75 + 2 * k < N by omega)) rfl ⟨⟨by decide, by decide⟩, by decide, by decide⟩ (lb rfl) (fun I' h_24 => ?_)
  obtain ⟨f1, f2, f3⟩ := h_24
  refine w_aload_n dX6_saveSnapshot_27 rfl ?_
  refine x_getr (ci := 6) (k := 5) (a := 74) dX6_saveSnapshot_28 rfl (by decide) (by decide) (by omega) fl_X6_43 (Or.inr ⟨_, rfl⟩) hl.2.2.2.2.2.2.2.2.2.1 ?_
  refine w_iload_n dX6_saveSnapshot_31 rfl ?_
  refine w_iconst (v := 1) dX6_saveSnapshot_32 (by decide) ?_
  refine x_zast (j := k) dX6_saveSnapshot_33 rfl (by omega) rfl (show k < 2 from hk) (by decide) ?_
  refine w_iload_n dX6_saveSnapshot_34 rfl ?_
  refine w_iret dX6_saveSnapshot_35 rfl (nz_b _) ⟨_, _, rfl, ⟨rfl, fun o ho => ?_, h.snp (fun o ho => ?_) (fun j hj => ?_)⟩, rfl⟩ (by decide) (by decide)
  · rw [← f1 o (by omega) (by omega)]; funext i; exact up2_n _ _ (by omega)
  · rw [← f1 o (by omega) (by omega)]; funext i; exact up2_n _ _ (by omega)
  · have e74 : I' 74 = I 74 := f1 74 (by omega) (by omega)
    have eU : ∀ o, o ≠ 74 → up2 I' 74 k 1 o = I' o := (fun o ho => by funext i; exact up2_n _ _ (by omega))
    rcases Decidable.em (j = k) with q | q
    · subst q
      rw [up2_s, if_pos rfl]
      refine ⟨rfl, fun s hs => ?_⟩
      cases hs
      exact ⟨hok, (stC.cp hst hok.2.2.2.1 f2 f3).fr (eU _ (by omega)) (eU _ (by omega))⟩
    · rw [if_neg q]
      refine ⟨by rw [up2_n _ _ (by simp [q]), e74]; exact (hsn j hj).1, fun s hs => ⟨((hsn j hj).2 s hs).1, ((hsn j hj).2 s hs).2.fr ((eU _ (by omega)).trans (f1 _ (by omega) (by omega))) ((eU _ (by omega)).trans (f1 _ (by omega) (by omega)))⟩⟩
set_option maxRecDepth 100000 in
theorem c_saveSnapshot_x {x : Int32} (hx : x < 0 ∨ ¬ x < nI 2) : g_Ct E l mX6_saveSnapshot 7 110 1 6 [.ref 0, .int x] (I, J, R, D, N, ex) (g_ths "java/lang/IllegalArgumentException" (I, J, R, D, N, false)) := by
  refine g_Ct.of (by decide +kernel) (lb rfl) ?_
  refine w_iload_n dX6_saveSnapshot_0 rfl ?_
  refine t_callS dX6_saveSnapshot_1 lk_X6_287 [.int x] rfl (c_requireSlot_x E l hx) rfl ⟨⟨by decide, by decide⟩, by decide, by decide⟩ (lb rfl) (w_out rfl ⟨rfl, rfl⟩ (by decide) (by decide))
set_option maxRecDepth 100000 in
theorem c_h_clear (hN : 51 < N) : g_Ct E l mX1_clear 0 0 0 0 [.ref 51] (I, J, R, D, N, ex) (g_is none (up2 I 51 2 0, J, R, D, N, ex)) := by
  refine g_Ct.of (by decide +kernel) (lb rfl) ?_
  refine w_aload_n dX1_clear_0 rfl ?_
  refine w_iconst (v := 0) dX1_clear_1 (by decide) ?_
  refine x_puti (ci := 1) (k := 2) dX1_clear_2 rfl (by decide) (by decide) hN fl_X1_21 rfl rfl ?_
  refine w_vret dX1_clear_5 rfl ⟨rfl, rfl⟩ (by decide) (by decide)
set_option maxRecDepth 100000 in
theorem c_restoreSnapshot (hl : lk R N sw) (h : rC I J sw A n) {k : Nat} (hk : k < 2) {x : St} (hx : A.sn k = some x) : g_Ct E l mX6_restoreSnapshot 7 110 0 0 [.ref 0, .int (nI k)] (I, J, R, D, N, ex) (g_ri (fun y I' => y = nI x.hs.length ∧ frM I I' ∧ rC I' J sw (A.up x []) n) J R D N ex) := by
  refine g_Ct.of (by decide +kernel) (lb rfl) ?_
  have hN := hl.2.2.2.2.2.2.2.2.2.2.2.2.2.2.2.2
  have hg := hl.1
  have hgm := gm_b sw
  have hsn := h.2.2.2.2.2.2.2.2.2.1
  obtain ⟨r1, r2⟩ := lk_sn hl hk
  obtain ⟨x1, x2⟩ := (hsn k hk).2 x hx
  obtain ⟨k1, k2, nx, k3, k4, k5⟩ := h.2.2.2.2.2.2.2.2.1
  refine w_iload_n dX6_restoreSnapshot_0 rfl ?_
  refine z_callS dX6_restoreSnapshot_1 lk_X6_287 [.int (nI k)] rfl (c_requireSlot E l _ hk) rfl ⟨⟨by decide, by decide⟩, by decide, by decide⟩ (lb rfl) ?_
  refine w_aload_n dX6_restoreSnapshot_4 rfl ?_
  refine x_getr (ci := 6) (k := 5) (a := 74) dX6_restoreSnapshot_5 rfl (by decide) (by decide) (by omega) fl_X6_43 (Or.inr ⟨_, rfl⟩) hl.2.2.2.2.2.2.2.2.2.1 ?_
  refine w_iload_n dX6_restoreSnapshot_8 rfl ?_
  refine x_zald (j := k) dX6_restoreSnapshot_9 rfl (by omega) rfl (show k < 2 from hk) ?_
  rw [(hsn k hk).1, hx]
  refine w_if_ne (tgt := 24) dX6_restoreSnapshot_10 (by decide) (fun c_10 => ?_) (fun c_10 => absurd c_10 ((show ¬ (1 : Int32) = 0 from by decide)))
  refine w_aload_n dX6_restoreSnapshot_24 rfl ?_
  refine x_getr (ci := 6) (k := 0) (a := gm sw) dX6_restoreSnapshot_25 rfl (by decide) (by decide) (by omega) fl_X6_12 (Or.inl ⟨_, rfl⟩) hl.2.2.2.2.1 ?_
  refine x_getr (ci := 0) (k := 3) (a := gm sw + 2) dX6_restoreSnapshot_28 hg.1 (by decide) (by decide) (by omega) fl_X6_85 (Or.inl ⟨_, rfl⟩) hg.2.2.2.2.1 ?_
  refine w_aload_n dX6_restoreSnapshot_31 rfl ?_
  refine x_getr (ci := 6) (k := 4) (a := 73) dX6_restoreSnapshot_32 rfl (by decide) (by decide) (by omega) fl_X6_39 (Or.inr ⟨_, rfl⟩) hl.2.2.2.2.2.2.2.2.1 ?_
  refine w_iload_n dX6_restoreSnapshot_35 rfl ?_
  refine x_aald14 (j := k) dX6_restoreSnapshot_36 rfl (by omega) rfl (show k < 2 from hk) r1 ?_
  refine u_callV dX6_restoreSnapshot_37 lk_X6_290 [.ref (75 + 2 * k)] rfl (c_copyFrom E l hg.2.2.2.2.2.1 r2 (by omega) (by rw [x2.2.2.2.1]; exact b2i_01 _)) (g_recv.obj (ci := 4) hg.2.2.2.2.2.1.1 (by decide) (show gm sw + 2 < N by omega)) rfl ⟨⟨by decide, by decide⟩, by decide, by decide⟩ (lb rfl) (fun I' h_37 => ?_)
  obtain ⟨f1, f2, f3⟩ := h_37
  have hs' := stC.cp x2 x1.2.2.2.1 f2 f3
  refine w_aload_n dX6_restoreSnapshot_40 rfl ?_
  refine x_getr (ci := 6) (k := 3) (a := 51) dX6_restoreSnapshot_41 rfl (by decide) (by decide) (by omega) fl_X6_33 (Or.inl ⟨_, rfl⟩) hl.2.2.2.2.2.2.2.1 ?_
  refine z_callV dX6_restoreSnapshot_44 lk_X6_79 [] rfl (c_h_clear E l (show 51 < N by omega)) (g_recv.obj (ci := 1) rfl (by decide) (show 51 < N by omega)) rfl ⟨⟨by decide, by decide⟩, by decide, by decide⟩ (lb rfl) ?_
  have eU : ∀ o, o ≠ 51 → up2 I' 51 2 0 o = I' o := (fun o ho => by funext i; exact up2_n _ _ (by omega))
  refine w_aload_n dX6_restoreSnapshot_47 rfl ?_
  refine x_getr (ci := 6) (k := 0) (a := gm sw) dX6_restoreSnapshot_48 rfl (by decide) (by decide) (by omega) fl_X6_12 (Or.inl ⟨_, rfl⟩) hl.2.2.2.2.1 ?_
  refine x_getr (ci := 0) (k := 3) (a := gm sw + 2) dX6_restoreSnapshot_51 hg.1 (by decide) (by decide) (by omega) fl_X6_85 (Or.inl ⟨_, rfl⟩) hg.2.2.2.2.1 ?_
  refine x_geti (ci := 4) (k := 0) dX6_restoreSnapshot_54 hg.2.2.2.2.2.1.1 (by decide) (by decide) (by omega) fl_X6_89 rfl ?_
  refine w_iret dX6_restoreSnapshot_57 rfl rfl ⟨_, _, rfl, ⟨?_, fun o ho => ?_, h.chg (fun o a b d => ?_) x1 (hs'.fr (eU _ (by omega)) (eU _ (by omega))) ⟨Nat.zero_le _, up2_s .., nx, k3, ?_, fun i hi => absurd hi (Nat.not_lt_zero i)⟩⟩, rfl⟩ (by decide) (by decide)
  · rw [eU _ (by omega)]; exact hs'.1
  · rw [eU o (by omega), f1 o (by omega) (by omega)]
  · rw [eU o (by omega), f1 o a (by omega)]
  · rw [up2_n _ _ (by simp), f1 51 (by omega) (by omega)]; exact k4
set_option maxRecDepth 100000 in
theorem c_restoreSnapshot_x1 {x : Int32} (hx : x < 0 ∨ ¬ x < nI 2) : g_Ct E l mX6_restoreSnapshot 7 110 1 6 [.ref 0, .int x] (I, J, R, D, N, ex) (g_ths "java/lang/IllegalArgumentException" (I, J, R, D, N, false)) := by
  refine g_Ct.of (by decide +kernel) (lb rfl) ?_
  refine w_iload_n dX6_restoreSnapshot_0 rfl ?_
  refine t_callS dX6_restoreSnapshot_1 lk_X6_287 [.int x] rfl (c_requireSlot_x E l hx) rfl ⟨⟨by decide, by decide⟩, by decide, by decide⟩ (lb rfl) (w_out rfl ⟨rfl, rfl⟩ (by decide) (by decide))
set_option maxRecDepth 100000 in
theorem c_restoreSnapshot_x2 (hl : lk R N sw) (h : rC I J sw A n) {k : Nat} (hk : k < 2) (hx : A.sn k = none) : g_Ct E l mX6_restoreSnapshot 7 110 1 6 [.ref 0, .int (nI k)] (I, J, R, D, N, ex) (g_ths "java/lang/IllegalStateException" (I, J, R, D, N, false)) := by
  refine g_Ct.of (by decide +kernel) (lb rfl) ?_
  have hN := hl.2.2.2.2.2.2.2.2.2.2.2.2.2.2.2.2
  have hsn := h.2.2.2.2.2.2.2.2.2.1
  refine w_iload_n dX6_restoreSnapshot_0 rfl ?_
  refine z_callS dX6_restoreSnapshot_1 lk_X6_287 [.int (nI k)] rfl (c_requireSlot E l _ hk) rfl ⟨⟨by decide, by decide⟩, by decide, by decide⟩ (lb rfl) ?_
  refine w_aload_n dX6_restoreSnapshot_4 rfl ?_
  refine x_getr (ci := 6) (k := 5) (a := 74) dX6_restoreSnapshot_5 rfl (by decide) (by decide) (by omega) fl_X6_43 (Or.inr ⟨_, rfl⟩) hl.2.2.2.2.2.2.2.2.2.1 ?_
  refine w_iload_n dX6_restoreSnapshot_8 rfl ?_
  refine x_zald (j := k) dX6_restoreSnapshot_9 rfl (by omega) rfl (show k < 2 from hk) ?_
  rw [(hsn k hk).1, hx]
  refine w_if_ne (tgt := 24) dX6_restoreSnapshot_10 (by decide) (fun c_10 => absurd (rfl) c_10) (fun c_10 => ?_)
  refine w_throwW (X := "java/lang/IllegalStateException") (tx := "the slot is empty") rfl rfl (by decide +kernel) (by decide +kernel) dX6_restoreSnapshot_13 dX6_restoreSnapshot_16 dX6_restoreSnapshot_17 dX6_restoreSnapshot_20 dX6_restoreSnapshot_23 (by decide) (lb rfl) (by decide) (by decide) (by decide) (by decide) ⟨rfl, rfl⟩
end FO
