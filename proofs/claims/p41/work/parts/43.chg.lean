/-! HeapGames: changes -/
def frM (I I' : Nat → Nat → Int32) : Prop := ∀ o, 79 ≤ o → I' o = I o
theorem frM.refl (I : Nat → Nat → Int32) : frM I I := fun _ _ => rfl
theorem frM.trans {I I' I'' : Nat → Nat → Int32} (h : frM I I') (h' : frM I' I'') : frM I I'' := fun o a => (h' o a).trans (h o a)
theorem frS.m {I I' : Nat → Nat → Int32} (h : frS I I') : frM I I' := fun o a => h o (by omega) (by omega) (by omega) (by omega)
theorem frC.m {g : Nat} {I I' : Nat → Nat → Int32} (h : frC g I I') (hg : g + 22 ≤ 47) : frM I I' := fun o a => h o (by omega) (by omega) (by omega)
def St.put (s : St) (h z : Nat) : St := (s.hs.set h (s.rl h, z), s.ps, s.mi, s.pl)
def St.log (s : St) (m : Mv) : St := (s.hs, s.ps, s.mi, s.pl ++ [m])
def St.play (s : St) (m : Mv) : St := match m with
  | .inl y => (s.put y.1 (s.sz y.1 - y.2)).log m
  | .inr (.inl y) => ((s.put y.1 (s.sz y.1 - y.2.2)).put y.2.1 (s.sz y.2.1 - y.2.2)).log m
  | .inr (.inr _) => St.log (s.hs, s.ps - 1, s.mi, s.pl) m
def playOK (s : St) (m : Mv) : Prop := match m with
  | .inl y => y.1 < s.hs.length ∧ 1 ≤ y.2 ∧ y.2 ≤ s.sz y.1
  | .inr (.inl y) => y.1 < y.2.1 ∧ y.2.1 < s.hs.length ∧ 1 ≤ y.2.2 ∧ y.2.2 ≤ s.sz y.1 ∧ y.2.2 ≤ s.sz y.2.1
  | .inr (.inr _) => 1 ≤ s.ps
theorem put_zs (s : St) (h z : Nat) : (s.put h z).zs = s.zs.set h z := by unfold St.zs St.put; rw [List.map_set]
theorem put_rs {s : St} {h : Nat} (z : Nat) (hh : h < s.hs.length) : (s.put h z).rs = s.rs := by
  unfold St.rs St.put
  rw [List.map_set]
  apply List.ext_getElem
  · simp
  · intro i h1 h2
    rw [List.getElem_set]
    split
    · rename_i e
      subst e
      simp [St.rl, List.getD_eq_getElem?_getD, List.getElem?_eq_getElem hh]
    · rfl
theorem put_len (s : St) (h z : Nat) : (s.put h z).hs.length = s.hs.length := List.length_set
theorem put_sz {s : St} {h : Nat} (z : Nat) (hh : h < s.hs.length) (k : Nat) : (s.put h z).sz k = if k = h then z else s.sz k := by
  unfold St.sz St.put
  rw [List.getD_eq_getElem?_getD, List.getD_eq_getElem?_getD]
  show (((s.hs.set h (s.rl h, z))[k]?).getD (0, 0)).2 = _
  rw [List.getElem?_set]
  by_cases e : h = k
  · subst e
    rw [if_pos rfl, if_pos hh, if_pos rfl]
    rfl
  · rw [if_neg e, if_neg (fun q => e q.symm)]
theorem put_ok {nr : Nat} {s : St} {h z : Nat} (ho : stOK nr s) (hh : h < s.hs.length) (hz : z ≤ 15) : stOK nr (s.put h z) := by
  obtain ⟨h1, h2, h3, h4, h5⟩ := ho
  refine ⟨by rw [put_len]; exact h1, fun x hx => ?_, h3, h4, h5⟩
  have hx' : x ∈ s.hs.set h (s.rl h, z) := hx
  rcases List.mem_or_eq_of_mem_set hx' with q | q
  · exact h2 x q
  · rw [q]
    exact ⟨stOK.rl ⟨h1, h2, h3, h4, h5⟩ hh, hz⟩
theorem put_pos {nr : Nat} {s : St} {h z : Nat} (ho : stOK nr s) (hh : h < s.hs.length) : (s.put h z).pos = setN s.pos h z := by
  unfold St.pos
  rw [put_zs]
  exact (pk4_set ho.zs (by rw [St.zs_len]; exact hh) ho.zl).symm
theorem set_sub {x k a : Nat} (hk : k < 4) (ha : a ≤ dig x k) : setN x k (dig x k - a) = x - a * 2 ^ (4 * k) ∧ a * 2 ^ (4 * k) ≤ x := by
  obtain ⟨A, B, C, D, q, hA, hB, hC, hD, rfl⟩ := mk5_ex x
  rcases (show k = 0 ∨ k = 1 ∨ k = 2 ∨ k = 3 by omega) with rfl | rfl | rfl | rfl
  · rw [mk5_0 hA] at ha ⊢
    unfold setN mk5
    simp
    omega
  · rw [mk5_1 hA hB] at ha ⊢
    unfold setN mk5
    simp
    omega
  · rw [mk5_2 hA hB hC] at ha ⊢
    unfold setN mk5
    simp
    omega
  · rw [mk5_3 hA hB hC hD] at ha ⊢
    unfold setN mk5
    simp
    omega
theorem log_ok {nr : Nat} {s : St} {m : Mv} (ho : stOK nr s) (hm : mvW m) (hp : s.pl.length < 40) : stOK nr (s.log m) := by
  obtain ⟨h1, h2, h3, h4, h5⟩ := ho
  refine ⟨h1, h2, h3, ?_, fun x hx => ?_⟩
  · show (s.pl ++ [m]).length ≤ 40
    rw [List.length_append, List.length_singleton]
    omega
  · have hx' : x ∈ s.pl ++ [m] := hx
    rw [List.mem_append, List.mem_singleton] at hx'
    rcases hx' with q | q
    · exact h5 x q
    · rw [q]; exact hm
theorem play_ok {nr : Nat} {s : St} {m : Mv} (ho : stOK nr s) (hm : playOK s m) (hp : s.pl.length < 40) : stOK nr (s.play m) ∧ (s.play m).pos = s.pos - m.code ∧ m.code ≤ s.pos ∧ (s.play m).rs = s.rs ∧ (s.play m).hs.length = s.hs.length ∧ mvW m ∧ (s.play m).pl = s.pl ++ [m] ∧ (s.play m).mi = s.mi := by
  have h4 := ho.1
  rcases m with ⟨h, a⟩ | ⟨h, o, a⟩ | ⟨⟩
  · obtain ⟨h1, h2, h3⟩ : h < s.hs.length ∧ 1 ≤ a ∧ a ≤ s.sz h := hm
    have hz := ho.sz h
    have hw : mvW (.inl (h, a)) := ⟨(by omega : h < 4), h2, (by omega : a ≤ 15)⟩
    have hd := ho.dig (show h < 4 by omega)
    have hs := set_sub (x := s.pos) (k := h) (a := a) (by omega) (by omega)
    refine ⟨log_ok (put_ok ho h1 (show s.sz h - a ≤ 15 by omega)) hw hp, ?_, hs.2, put_rs _ h1, put_len _ _ _, hw, rfl, rfl⟩
    show (s.put h (s.sz h - a)).pos = _
    rw [put_pos ho h1, ← hd]
    exact hs.1
  · obtain ⟨h1, h2, h3, h5, h6⟩ : h < o ∧ o < s.hs.length ∧ 1 ≤ a ∧ a ≤ s.sz h ∧ a ≤ s.sz o := hm
    have hz := ho.sz h
    have hz2 := ho.sz o
    have hw : mvW (.inr (.inl (h, o, a))) := ⟨h1, (by omega : o < 4), h3, (by omega : a ≤ 15)⟩
    have hd := ho.dig (show h < 4 by omega)
    have hs := set_sub (x := s.pos) (k := h) (a := a) (by omega) (by omega)
    have ho1 := put_ok (z := s.sz h - a) ho (show h < s.hs.length by omega) (by omega)
    have e1 : (s.put h (s.sz h - a)).pos = s.pos - a * 2 ^ (4 * h) := by rw [put_pos ho (by omega), ← hd]; exact hs.1
    have hd2 := ho1.dig (show o < 4 by omega)
    have e2 : (s.put h (s.sz h - a)).sz o = s.sz o := by rw [put_sz _ (by omega), if_neg (by omega)]
    have hl : (s.put h (s.sz h - a)).hs.length = s.hs.length := put_len _ _ _
    have hs2 := set_sub (x := (s.put h (s.sz h - a)).pos) (k := o) (a := a) (by omega) (by omega)
    refine ⟨log_ok (put_ok ho1 (show o < (s.put h (s.sz h - a)).hs.length by omega) (show s.sz o - a ≤ 15 by omega)) hw hp, ?_, ?_, (put_rs _ (show o < (s.put h (s.sz h - a)).hs.length by omega)).trans (put_rs _ (show h < s.hs.length by omega)), (put_len _ _ _).trans hl, hw, rfl, rfl⟩
    · show ((s.put h (s.sz h - a)).put o (s.sz o - a)).pos = s.pos - a * (2 ^ (4 * h) + 2 ^ (4 * o))
      rw [put_pos ho1 (by omega), ← e2, ← hd2, hs2.1, e1, Nat.mul_add]
      omega
    · show a * (2 ^ (4 * h) + 2 ^ (4 * o)) ≤ s.pos
      rw [Nat.mul_add]
      have := hs2.2
      rw [e1] at this
      have := hs.2
      omega
  · have h1 : 1 ≤ s.ps := hm
    have h2 := ho.2.2.1
    have ho1 : stOK nr ((s.hs, s.ps - 1, s.mi, s.pl) : St) := ⟨ho.1, ho.2.1, (by omega : s.ps - 1 ≤ 3), ho.2.2.2.1, ho.2.2.2.2⟩
    refine ⟨log_ok ho1 trivial hp, ?_, ?_, rfl, rfl, trivial, rfl, rfl⟩
    · show pk4 s.zs + 2 ^ 16 * (s.ps - 1) = pk4 s.zs + 2 ^ 16 * s.ps - 65536
      omega
    · show 65536 ≤ pk4 s.zs + 2 ^ 16 * s.ps
      omega
def AS.rec (A : AS) (s : St) : AS := A.up s ((A.st :: A.hi).take 10)
section FJ
variable (E : GE) (l : Launch)
variable {I : Nat → Nat → Int32} {J : Nat → Nat → Int64} {R : Nat → Nat → Option Nat} {D : Nat → Nat → UInt64} {N : Nat} {ex : Bool} {sw : Bool} {A : AS} {n s : Nat}
set_option maxRecDepth 100000 in
theorem c_playMove (hl : lk R N sw) (h : rC I J sw A n) {m : Mv} (hm : playOK A.st m) (hp : A.st.pl.length < 40) : g_Ct E l mX6_playMove 3 102 0 0 [.ref 0, .int (nI m.code)] (I, J, R, D, N, ex) (g_rv (fun I' => frM I I' ∧ rC I' J sw (A.rec (A.st.play m)) n) J R D N ex) := by
  refine g_Ct.of (by decide +kernel) (lb rfl) ?_
  have hN := hl.2.2.2.2.2.2.2.2.2.2.2.2.2.2.2.2
  have hg := hl.1
  have hh := hl.2.2.2.1
  have hgm := gm_b sw
  have hst := h.2.2.2.2.2.1
  have hok := h.2.2.2.2.1
  have hpos := hok.pos
  obtain ⟨p1, p2, p3, p4, p5, p6, p7, p8⟩ := play_ok hok hm hp
  refine w_aload_n dX6_playMove_0 rfl ?_
  refine x_getr (ci := 6) (k := 3) (a := 51) dX6_playMove_1 rfl (by decide) (by decide) (by omega) fl_X6_33 (Or.inl ⟨_, rfl⟩) hl.2.2.2.2.2.2.2.1 ?_
  refine w_aload_n dX6_playMove_4 rfl ?_
  refine x_getr (ci := 6) (k := 0) (a := gm sw) dX6_playMove_5 rfl (by decide) (by decide) (by omega) fl_X6_12 (Or.inl ⟨_, rfl⟩) hl.2.2.2.2.1 ?_
  refine x_getr (ci := 0) (k := 3) (a := gm sw + 2) dX6_playMove_8 hg.1 (by decide) (by decide) (by omega) fl_X6_85 (Or.inl ⟨_, rfl⟩) hg.2.2.2.2.1 ?_
  refine u_callV dX6_playMove_11 lk_X6_265 [.ref (gm sw + 2)] rfl (c_remember E l hh hg.2.2.2.2.2.1 (by omega) h.2.2.2.2.2.2.2.2.1 hst hok) (g_recv.obj (ci := 1) rfl (by decide) (show 51 < N by omega)) rfl ⟨⟨by decide, by decide⟩, by decide, by decide⟩ (lb rfl) (fun I' h_11 => ?_)
  obtain ⟨f1, f2⟩ := h_11
  have hst2 : stC I' (gm sw + 2) A.st := hst.fr (f1 _ (by omega)) (f1 _ (by omega))
  refine w_aload_n dX6_playMove_14 rfl ?_
  refine x_getr (ci := 6) (k := 0) (a := gm sw) dX6_playMove_15 rfl (by decide) (by decide) (by omega) fl_X6_12 (Or.inl ⟨_, rfl⟩) hl.2.2.2.2.1 ?_
  refine x_getr (ci := 0) (k := 3) (a := gm sw + 2) dX6_playMove_18 hg.1 (by decide) (by decide) (by omega) fl_X6_85 (Or.inl ⟨_, rfl⟩) hg.2.2.2.2.1 ?_
  refine w_dup dX6_playMove_21 rfl ?_
  refine x_geti (ci := 4) (k := 2) dX6_playMove_22 hg.2.2.2.2.2.1.1 (by decide) (by decide) (by omega) fl_X6_92 rfl ?_
  rw [hst2.2.2.1]
  refine w_iload_n dX6_playMove_25 rfl ?_
  refine w_isub dX6_playMove_26 ?_
  rw [pk_sub p3, ← p2]
  refine x_puti (ci := 4) (k := 2) dX6_playMove_27 hg.2.2.2.2.2.1.1 (by decide) (by decide) (by omega) fl_X6_92 rfl rfl ?_
  refine w_aload_n dX6_playMove_30 rfl ?_
  refine x_getr (ci := 6) (k := 0) (a := gm sw) dX6_playMove_31 rfl (by decide) (by decide) (by omega) fl_X6_12 (Or.inl ⟨_, rfl⟩) hl.2.2.2.2.1 ?_
  refine x_getr (ci := 0) (k := 3) (a := gm sw + 2) dX6_playMove_34 hg.1 (by decide) (by decide) (by omega) fl_X6_85 (Or.inl ⟨_, rfl⟩) hg.2.2.2.2.1 ?_
  refine w_iload_n dX6_playMove_37 rfl ?_
  refine u_callV dX6_playMove_38 lk_X6_281 [.int (nI m.code)] rfl (c_addPlayed E l hg.2.2.2.2.2.1 (p := A.st.pl.length) (by rw [up2_n _ _ (by simp)]; exact hst2.2.2.2.2.1) hp _) (g_recv.obj (ci := 4) hg.2.2.2.2.2.1.1 (by decide) (show gm sw + 2 < N by omega)) rfl ⟨⟨by decide, by decide⟩, by decide, by decide⟩ (lb rfl) (fun I2 h_38 => ?_)
  obtain ⟨g1, g2, g3, g4, g5⟩ := h_38
  refine w_vret dX6_playMove_41 rfl ⟨_, rfl, ⟨?_, ?_⟩, rfl⟩ (by decide) (by decide)
  · intro o ho
    rw [g1 o (by omega) (by omega), ← f1 o (by omega)]
    funext j
    exact up2_n _ _ (by omega)
  · have hfr : frC (gm sw) I I2 := (fun o a b d => by rw [g1 o a (by omega), ← f1 o d]; funext j; exact up2_n _ _ (by omega))
    refine h.chg hfr p1 ⟨?_, ?_, ?_, ?_, ?_, fun i hi => ?_⟩ ?_
    · rw [g2 0 (by omega), up2_n _ _ (by simp), p5]; exact hst2.1
    · rw [g2 1 (by omega), up2_n _ _ (by simp), p4]; exact hst2.2.1
    · rw [g2 2 (by omega), up2_s]
    · rw [g2 3 (by omega), up2_n _ _ (by simp), p8]; exact hst2.2.2.2.1
    · rw [g3, p7, List.length_append]; rfl
    · have hi2 : i < (A.st.pl ++ [m]).length := (by rw [← p7]; exact hi)
      have e : (A.st.play m).pl[i] = (A.st.pl ++ [m])[i] := (by simp only [p7])
      rw [e]
      rw [List.length_append, List.length_singleton] at hi2
      rcases Nat.lt_or_ge i A.st.pl.length with z | z
      · rw [g4 i (by omega), up2_n _ _ (by omega), List.getElem_append_left z]; exact hst2.2.2.2.2.2 i z
      · obtain rfl : i = A.st.pl.length := (by omega)
        rw [g5, List.getElem_append_right (Nat.le_refl _)]; simp
    · obtain ⟨k1, k2, nx, k3, k4, k5⟩ := f2
      have e2 : ∀ o, 51 ≤ o → I2 o = I' o := (fun o ho => by rw [g1 o (by omega) (by omega)]; funext j; exact up2_n _ _ (by omega))
      exact ⟨k1, by rw [e2 51 (by omega)]; exact k2, nx, k3, by rw [e2 51 (by omega)]; exact k4, fun i hi => ⟨(k5 i hi).1, (k5 i hi).2.fr (e2 _ (by omega)) (e2 _ (by omega))⟩⟩
end FJ
