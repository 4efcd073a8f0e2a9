/-! HeapGames: the position -/
theorem map_getD {l : List (Nat × Nat)} {k : Nat} : (l.map Prod.fst).getD k 0 = (l.getD k (0, 0)).1 ∧ (l.map Prod.snd).getD k 0 = (l.getD k (0, 0)).2 := by
  rw [List.getD_eq_getElem?_getD, List.getD_eq_getElem?_getD, List.getD_eq_getElem?_getD, List.getElem?_map, List.getElem?_map]
  cases l[k]? <;> exact ⟨rfl, rfl⟩
def St.rl (s : St) (h : Nat) : Nat := (s.hs.getD h (0, 0)).1
def St.sz (s : St) (h : Nat) : Nat := (s.hs.getD h (0, 0)).2
theorem St.rs_len (s : St) : s.rs.length = s.hs.length := List.length_map _
theorem St.zs_len (s : St) : s.zs.length = s.hs.length := List.length_map _
theorem stOK.rs {nr : Nat} {s : St} (h : stOK nr s) (hnr : nr ≤ 6) : rsOK s.rs := by
  refine ⟨by rw [St.rs_len]; exact h.1, fun x hx => ?_⟩
  obtain ⟨y, hy, rfl⟩ := List.mem_map.mp hx
  have := (h.2.1 y hy).1
  omega
theorem stOK.zs {nr : Nat} {s : St} (h : stOK nr s) : ∀ x ∈ s.zs, x < 16 := by
  intro x hx
  obtain ⟨y, hy, rfl⟩ := List.mem_map.mp hx
  have := (h.2.1 y hy).2
  omega
theorem stOK.zl {nr : Nat} {s : St} (h : stOK nr s) : s.zs.length ≤ 4 := by rw [St.zs_len]; exact h.1
theorem stOK.pk {nr : Nat} {s : St} (h : stOK nr s) : pk4 s.zs < 65536 := pk4_16 h.zs h.zl
theorem stOK.pos {nr : Nat} {s : St} (h : stOK nr s) : s.pos < 262144 := by
  have h1 := h.pk
  have h2 := h.2.2.1
  unfold St.pos
  omega
theorem stOK.dig {nr : Nat} {s : St} (h : stOK nr s) {k : Nat} (hk : k < 4) : dig s.pos k = s.sz k := by
  have := pk4_get h.zs k s.ps hk h.zl
  exact this.trans map_getD.2
theorem stOK.ps {nr : Nat} {s : St} (h : stOK nr s) : s.pos / 2 ^ 16 = s.ps := by
  have h1 := h.pk
  unfold St.pos
  omega
theorem stOK.rl {nr : Nat} {s : St} (h : stOK nr s) {k : Nat} (hk : k < s.hs.length) : s.rl k < nr := by
  unfold St.rl
  rw [List.getD_eq_getElem?_getD, List.getElem?_eq_getElem hk]
  exact (h.2.1 _ (List.getElem_mem hk)).1
theorem stOK.sz {nr : Nat} {s : St} (h : stOK nr s) (k : Nat) : s.sz k ≤ 15 := by
  unfold St.sz
  rw [List.getD_eq_getElem?_getD]
  rcases Nat.lt_or_ge k s.hs.length with z | z
  · rw [List.getElem?_eq_getElem z]
    exact (h.2.1 _ (List.getElem_mem z)).2
  · rw [List.getElem?_eq_none z]
    exact Nat.zero_le _
theorem stOK.rbits {nr : Nat} {s : St} (h : stOK nr s) (hnr : nr ≤ 6) {k : Nat} (hk : k < 4) : s_bits (nI (pk4 s.rs)) (nI k) = nI (s.rl k) := by
  have hr := h.rs hnr
  rw [bits_nI (by have := pk4_16 hr.lt hr.1; omega) hk]
  have := pk4_get hr.lt k 0 hk hr.1
  rw [Nat.mul_zero, Nat.add_zero] at this
  rw [this]
  exact congrArg nI map_getD.1
theorem stOK.zbits {nr : Nat} {s : St} (h : stOK nr s) {k : Nat} (hk : k < 4) : s_bits (nI s.pos) (nI k) = nI (s.sz k) := by
  rw [bits_nI (by have := h.pos; omega) hk]
  exact congrArg nI (h.dig hk)
def AS.cf (A : AS) : Cf := cfOf A.ru A.st.rs A.st.mi
def frS (I I' : Nat → Nat → Int32) : Prop := ∀ o, o ≠ 47 → o ≠ 48 → o ≠ 49 → o ≠ 50 → I' o = I o
theorem frS.refl (I : Nat → Nat → Int32) : frS I I := fun _ _ _ _ _ => rfl
theorem frS.trans {I I' I'' : Nat → Nat → Int32} (h : frS I I') (h' : frS I' I'') : frS I I'' := fun o a b c d => (h' o a b c d).trans (h o a b c d)
theorem frP.s {I I' : Nat → Nat → Int32} (h : frP I I') : frS I I' := fun o a _ c _ => h o a c
theorem frY.s {I I' : Nat → Nat → Int32} (h : frY I I') : frS I I' := fun o a b _ d => h.1 o a b d
theorem frX.s {I I' : Nat → Nat → Int32} (h : frX I I') : frS I I' := h.y.s
/-- prepared -/
def prp (I : Nat → Nat → Int32) (A : AS) (n : Nat) : Prop := ∃ T, sQ I A.ru A.st.rs A.st.mi n T
/-- .. and found out for t and all below -/
def rdy (I : Nat → Nat → Int32) (A : AS) (n t : Nat) : Prop := ∃ st T, st ≤ n ∧ I 47 4 = nI (wn A.st.rs A.st.mi) ∧ svOK I A.cf ∧ svT I A.cf st T ∧ kn T st t
theorem rdy.p {I : Nat → Nat → Int32} {A : AS} {n t : Nat} (h : rdy I A n t) : prp I A n := by
  obtain ⟨st, T, h1, h2, h3, h4, h5⟩ := h
  exact ⟨T, st, h1, h2, h3, h4⟩
theorem prp.s {I : Nat → Nat → Int32} {A : AS} {n : Nat} (h : prp I A n) (hr : rsOK A.st.rs) : sP I A.ru n := by
  obtain ⟨T, st, h1, h2, h3, h4⟩ := h
  exact ⟨st, T, h1, h4.1.1, h4.1.2.2.2, Or.inr ⟨_, _, hr, h2, h3, h4⟩⟩
theorem rdy.x {I I' : Nat → Nat → Int32} {A : AS} {n t : Nat} (h : rdy I A n t) (f : frX I I') : rdy I' A n t := by
  obtain ⟨st, T, h1, h2, h3, h4, h5⟩ := h
  exact ⟨st, T, h1, by rw [f.2 4 (by decide)]; exact h2, h3.fr f, h4.fr f, h5⟩
theorem prp.x {I I' : Nat → Nat → Int32} {A : AS} {n : Nat} (h : prp I A n) (f : frX I I') : prp I' A n := by
  obtain ⟨T, st, h1, h2, h3, h4⟩ := h
  exact ⟨T, st, h1, by rw [f.2 4 (by decide)]; exact h2, h3.fr f, h4.fr f⟩
theorem stC.fr {I I' : Nat → Nat → Int32} {o : Nat} {s : St} (h : stC I o s) (h1 : I' o = I o) (h2 : I' (o + 1) = I (o + 1)) : stC I' o s := by
  unfold stC
  rw [h1, h2]
  exact h
theorem rC.gmP {I : Nat → Nat → Int32} {J : Nat → Nat → Int64} {sw : Bool} {A : AS} {n : Nat} (h : rC I J sw A n) : gmP I J (gm sw) A.ru A.st.rs A.st.mi := by
  obtain ⟨h1, h2, h3, h4, h5, h6, _⟩ := h
  refine ⟨h5.rs h1.2, by rw [St.rs_len]; exact h6.1, h6.2.1, h6.2.2.2.1, h3.1, h2.2.2, fun k hk => ?_⟩
  exact ⟨(h3.2 k hk).1, (h2.1 k hk).1, (h3.2 k hk).2⟩
theorem rC.sv {I I' : Nat → Nat → Int32} {J : Nat → Nat → Int64} {sw : Bool} {A : AS} {n n' : Nat} (h : rC I J sw A n) (f : frS I I') (hs : sP I' A.ru n') : rC I' J sw A n' := by
  have hg := gm_b sw
  have hd := dg_b sw
  obtain ⟨h1, h2, h3, h4, h5, h6, h7, h8, h9, h10, h11⟩ := h
  have e : ∀ o, (o < 47 ∨ 50 < o) → I' o = I o := fun o ho => f o (by omega) (by omega) (by omega) (by omega)
  refine ⟨⟨by rw [e _ (by omega)]; exact h1.1, h1.2⟩, h2, ⟨by rw [e _ (by omega)]; exact h3.1, fun k hk => ?_⟩, fun k hk m hm => ?_, h5, h6.fr (e _ (by omega)) (e _ (by omega)), fun k hk => ?_, hs, ⟨h9.1, by rw [e 51 (by omega)]; exact h9.2.1, ?_⟩, fun k hk => ?_, ?_⟩
  · rw [e _ (by omega)]; exact h3.2 k hk
  · rw [e _ (by omega)]; exact h4 k hk m hm
  · rw [e _ (by omega)]; exact h7 k hk
  · obtain ⟨nx, q1, q2, q3⟩ := h9.2.2
    refine ⟨nx, q1, by rw [e 51 (by omega)]; exact q2, fun i hi => ?_⟩
    exact ⟨(q3 i hi).1, (q3 i hi).2.fr (e _ (by omega)) (e _ (by omega))⟩
  · rw [e 74 (by omega)]
    exact ⟨(h10 k hk).1, fun s hs => ⟨((h10 k hk).2 s hs).1, ((h10 k hk).2 s hs).2.fr (e _ (by omega)) (e _ (by omega))⟩⟩
  · unfold txC
    rw [e 23 (by omega), e 24 (by omega)]
    exact h11
def nsS (A : AS) : Nat → Int32
  | 0 => 0
  | h + 1 => nsS A h ^^^ vS A.ru (A.st.rl h) (A.st.sz h)
def hpS (A : AS) (h w : Nat) : Int32 := match w with
  | 0 => nI (A.st.rl h)
  | 1 => nI (A.st.sz h)
  | 2 => vS A.ru (A.st.rl h) (A.st.sz h)
  | _ => nI (cntA (okA (A.ru.1 (A.st.rl h)) (A.ru.2.1 (A.st.rl h)) (A.st.sz h)) (A.st.sz h))
section FD
variable (E : GE) (l : Launch)
variable {I : Nat → Nat → Int32} {J : Nat → Nat → Int64} {R : Nat → Nat → Option Nat} {D : Nat → Nat → UInt64} {N : Nat} {ex : Bool} {sw : Bool} {A : AS} {n : Nat}
set_option maxRecDepth 100000 in
theorem c_requireHeap (hl : lk R N sw) (h : rC I J sw A n) {k : Nat} (hk : k < A.st.hs.length) : g_Ct E l mX6_requireHeap 6 90 0 0 [.ref 0, .int (nI k)] (I, J, R, D, N, ex) (g_is none (I, J, R, D, N, ex)) := by
  refine g_Ct.of (by decide +kernel) (lb rfl) ?_
  have hN := hl.2.2.2.2.2.2.2.2.2.2.2.2.2.2.2.2
  have hg := hl.1
  have hgm := gm_b sw
  have hst := h.2.2.2.2.2.1
  have h4 := h.2.2.2.2.1.1
  refine w_iload_n dX6_requireHeap_0 rfl ?_
  refine w_if_lt (tgt := 18) dX6_requireHeap_1 (by decide) (fun c_1 => absurd c_1 ((nI_pos (by omega)))) (fun c_1 => ?_)
  refine w_iload_n dX6_requireHeap_4 rfl ?_
  refine w_aload_n dX6_requireHeap_5 rfl ?_
  refine x_getr (ci := 6) (k := 0) (a := gm sw) dX6_requireHeap_6 rfl (by decide) (by decide) (by omega) fl_X6_12 (Or.inl ⟨_, rfl⟩) hl.2.2.2.2.1 ?_
  refine x_getr (ci := 0) (k := 3) (a := gm sw + 2) dX6_requireHeap_9 hg.1 (by decide) (by decide) (by omega) fl_X6_85 (Or.inl ⟨_, rfl⟩) hg.2.2.2.2.1 ?_
  refine x_geti (ci := 4) (k := 0) dX6_requireHeap_12 hg.2.2.2.2.2.1.1 (by decide) (by decide) (by omega) fl_X6_89 rfl ?_
  refine w_icmp_lt (tgt := 28) dX6_requireHeap_15 (by decide) (fun c_15 => ?_) (fun c_15 => absurd ((by rw [hst.1]; exact nI_lt (by omega) (by omega))) c_15)
  refine w_vret dX6_requireHeap_28 rfl ⟨rfl, rfl⟩ (by decide) (by decide)
set_option maxRecDepth 100000 in
theorem c_requireHeap_x (hl : lk R N sw) (h : rC I J sw A n) {x : Int32} (hx : x < 0 ∨ ¬ x < nI A.st.hs.length) : g_Ct E l mX6_requireHeap 6 90 1 6 [.ref 0, .int x] (I, J, R, D, N, ex) (g_ths "java/lang/IndexOutOfBoundsException" (I, J, R, D, N, false)) := by
  refine g_Ct.of (by decide +kernel) (lb rfl) ?_
  have hN := hl.2.2.2.2.2.2.2.2.2.2.2.2.2.2.2.2
  have hg := hl.1
  have hgm := gm_b sw
  have hst := h.2.2.2.2.2.1
  refine w_iload_n dX6_requireHeap_0 rfl ?_
  refine w_if_lt (tgt := 18) dX6_requireHeap_1 (by decide) (fun c_1 => ?_) (fun c_1 => ?_)
  · refine w_throw (X := "java/lang/IndexOutOfBoundsException") (tx := "there is no such heap") rfl rfl (by decide +kernel) (by decide +kernel) dX6_requireHeap_18 dX6_requireHeap_21 dX6_requireHeap_22 dX6_requireHeap_24 dX6_requireHeap_27 (by decide) (lb rfl) (by decide) (by decide) (by decide) (by decide) ⟨rfl, rfl⟩
  · refine w_iload_n dX6_requireHeap_4 rfl ?_
    refine w_aload_n dX6_requireHeap_5 rfl ?_
    refine x_getr (ci := 6) (k := 0) (a := gm sw) dX6_requireHeap_6 rfl (by decide) (by decide) (by omega) fl_X6_12 (Or.inl ⟨_, rfl⟩) hl.2.2.2.2.1 ?_
    refine x_getr (ci := 0) (k := 3) (a := gm sw + 2) dX6_requireHeap_9 hg.1 (by decide) (by decide) (by omega) fl_X6_85 (Or.inl ⟨_, rfl⟩) hg.2.2.2.2.1 ?_
    refine x_geti (ci := 4) (k := 0) dX6_requireHeap_12 hg.2.2.2.2.2.1.1 (by decide) (by decide) (by omega) fl_X6_89 rfl ?_
    refine w_icmp_lt (tgt := 28) dX6_requireHeap_15 (by decide) (fun c_15 => absurd c_15 ((by rw [hst.1]; rcases hx with z | z; exact absurd z c_1; exact z))) (fun c_15 => ?_)
    refine w_throw (X := "java/lang/IndexOutOfBoundsException") (tx := "there is no such heap") rfl rfl (by decide +kernel) (by decide +kernel) dX6_requireHeap_18 dX6_requireHeap_21 dX6_requireHeap_22 dX6_requireHeap_24 dX6_requireHeap_27 (by decide) (lb rfl) (by decide) (by decide) (by decide) (by decide) ⟨rfl, rfl⟩
set_option maxRecDepth 100000 in
theorem c_countersOf (hl : lk R N sw) (h : rC I J sw A n) {k : Nat} (hk : k < 4) : g_Ct E l mX6_countersOf 1 21 0 0 [.ref 0, .int (nI k)] (I, J, R, D, N, ex) (g_is (some (.int (nI (A.st.sz k)))) (I, J, R, D, N, ex)) := by
  refine g_Ct.of (by decide +kernel) (lb rfl) ?_
  have hN := hl.2.2.2.2.2.2.2.2.2.2.2.2.2.2.2.2
  have hg := hl.1
  have hgm := gm_b sw
  have hst := h.2.2.2.2.2.1
  refine w_aload_n dX6_countersOf_0 rfl ?_
  refine x_getr (ci := 6) (k := 0) (a := gm sw) dX6_countersOf_1 rfl (by decide) (by decide) (by omega) fl_X6_12 (Or.inl ⟨_, rfl⟩) hl.2.2.2.2.1 ?_
  refine x_getr (ci := 0) (k := 3) (a := gm sw + 2) dX6_countersOf_4 hg.1 (by decide) (by decide) (by omega) fl_X6_85 (Or.inl ⟨_, rfl⟩) hg.2.2.2.2.1 ?_
  refine x_geti (ci := 4) (k := 2) dX6_countersOf_7 hg.2.2.2.2.2.1.1 (by decide) (by decide) (by omega) fl_X6_92 rfl ?_
  rw [hst.2.2.1]
  refine w_iload_n dX6_countersOf_10 rfl ?_
  refine y_callS dX6_countersOf_11 lk_X6_180 [.int (nI A.st.pos), .int (nI k)] rfl (c_bitsOf E l _ _ _) rfl ⟨⟨by decide, by decide⟩, by decide, by decide⟩ (lb rfl) ?_
  rw [h.2.2.2.2.1.zbits hk]
  refine w_iret dX6_countersOf_14 rfl rfl ⟨rfl, rfl⟩ (by decide) (by decide)
set_option maxRecDepth 100000 in
theorem c_nimSum (hl : lk R N sw) (h : rC I J sw A n) : g_Ct E l mX6_nimSum 3 63 0 0 [.ref 0] (I, J, R, D, N, ex) (g_is (some (.int (nsS A A.st.hs.length))) (I, J, R, D, N, ex)) := by
  refine g_Ct.of (by decide +kernel) (lb rfl) ?_
  have hN := hl.2.2.2.2.2.2.2.2.2.2.2.2.2.2.2.2
  have hg := hl.1
  have hgm := gm_b sw
  have hst := h.2.2.2.2.2.1
  have hok := h.2.2.2.2.1
  have h4 := hok.1
  have hnr := h.1.2
  have loop : ∀ f k : Nat, k + f = A.st.hs.length → g_Wp E l mX6_nimSum { frames := 3, cells := 0, slots := 0, locals := 63 } (g_Fin E (g_is (some (.int (nsS A A.st.hs.length))) (I, J, R, D, N, ex)) 0 0) 0 0 4 [(2, .int (nI k)), (1, .int (nsS A k)), (0, .ref 0)] [] (I, J, R, D, N, ex) := by
    intro f
    induction f with
    | zero =>
      intro k hk
      obtain rfl : k = A.st.hs.length := by omega
      refine w_iload_n dX6_nimSum_4 rfl ?_
      refine w_aload_n dX6_nimSum_5 rfl ?_
      refine x_getr (ci := 6) (k := 0) (a := gm sw) dX6_nimSum_6 rfl (by decide) (by decide) (by omega) fl_X6_12 (Or.inl ⟨_, rfl⟩) hl.2.2.2.2.1 ?_
      refine x_getr (ci := 0) (k := 3) (a := gm sw + 2) dX6_nimSum_9 hg.1 (by decide) (by decide) (by omega) fl_X6_85 (Or.inl ⟨_, rfl⟩) hg.2.2.2.2.1 ?_
      refine x_geti (ci := 4) (k := 0) dX6_nimSum_12 hg.2.2.2.2.2.1.1 (by decide) (by decide) (by omega) fl_X6_89 rfl ?_
      refine w_icmp_ge (tgt := 43) dX6_nimSum_15 (by decide) (fun c_15 => ?_) (fun c_15 => absurd ((by rw [hst.1]; exact nI_le (by omega) (by omega))) c_15)
      refine w_iload_n dX6_nimSum_43 rfl ?_
      refine w_iret dX6_nimSum_44 rfl rfl ⟨rfl, rfl⟩ (by decide) (by decide)
    | succ f ih =>
      intro k hkk
      have hk : k < A.st.hs.length := by omega
      have hrl := hok.rl hk
      have hsz := hok.sz k
      have hb := hok.rbits hnr (show k < 4 by omega)
      have hb' : s_bits (I (gm sw + 2) 1) (nI k) = nI (A.st.rl k) := by rw [hst.2.1]; exact hb
      have hr := (hg.2.2.2.2.2.2 (A.st.rl k) (by omega)).2
      have hrN : gm sw + 4 + 3 * A.st.rl k < N := by have := hr.2.1; omega
      have hV : ∀ i, i < 301 → I (gm sw + 4 + 3 * A.st.rl k + 1) i = vS A.ru (A.st.rl k) i := fun i hi => by rw [show gm sw + 4 + 3 * A.st.rl k + 1 = gm sw + 5 + 3 * A.st.rl k by omega]; exact h.2.2.2.1 _ hrl i hi
      refine w_iload_n dX6_nimSum_4 rfl ?_
      refine w_aload_n dX6_nimSum_5 rfl ?_
      refine x_getr (ci := 6) (k := 0) (a := gm sw) dX6_nimSum_6 rfl (by decide) (by decide) (by omega) fl_X6_12 (Or.inl ⟨_, rfl⟩) hl.2.2.2.2.1 ?_
      refine x_getr (ci := 0) (k := 3) (a := gm sw + 2) dX6_nimSum_9 hg.1 (by decide) (by decide) (by omega) fl_X6_85 (Or.inl ⟨_, rfl⟩) hg.2.2.2.2.1 ?_
      refine x_geti (ci := 4) (k := 0) dX6_nimSum_12 hg.2.2.2.2.2.1.1 (by decide) (by decide) (by omega) fl_X6_89 rfl ?_
      refine w_icmp_ge (tgt := 43) dX6_nimSum_15 (by decide) (fun c_15 => absurd c_15 ((by rw [hst.1]; exact nI_ge (by omega) (by omega)))) (fun c_15 => ?_)
      refine w_iload_n dX6_nimSum_18 rfl ?_
      refine w_aload_n dX6_nimSum_19 rfl ?_
      refine x_getr (ci := 6) (k := 0) (a := gm sw) dX6_nimSum_20 rfl (by decide) (by decide) (by omega) fl_X6_12 (Or.inl ⟨_, rfl⟩) hl.2.2.2.2.1 ?_
      refine w_iload_n dX6_nimSum_23 rfl ?_
      refine y_callV dX6_nimSum_24 lk_X6_183 [.int (nI k)] rfl (c_ruleOfHeap E l hg hb' (by omega)) (g_recv.obj (ci := 0) hg.1 (by decide) (show gm sw < N by omega)) rfl ⟨⟨by decide, by decide⟩, by decide, by decide⟩ (lb rfl) ?_
      refine w_aload_n dX6_nimSum_27 rfl ?_
      refine w_iload_n dX6_nimSum_28 rfl ?_
      refine y_callV dX6_nimSum_29 lk_X6_174 [.int (nI k)] rfl (c_countersOf E l hl h (show k < 4 by omega)) (g_recv.obj (ci := 6) rfl (by decide) (show 0 < N by omega)) rfl ⟨⟨by decide, by decide⟩, by decide, by decide⟩ (lb rfl) ?_
      refine y_callV dX6_nimSum_32 lk_X6_143 [.int (nI (A.st.sz k))] rfl (c_valueOf E l hr (by omega)) (g_recv.obj (ci := 2) hr.1 (by decide) hrN) rfl ⟨⟨by decide, by decide⟩, by decide, by decide⟩ (lb rfl) ?_
      rw [hV _ (by omega)]
      refine w_ixor dX6_nimSum_35 ?_
      refine w_istore_n dX6_nimSum_36 (by decide) rfl ?_
      refine w_iinc (v := nI (k + 1)) dX6_nimSum_37 rfl (nI_inc _) (by decide) rfl ?_
      refine w_goto (tgt := 4) dX6_nimSum_40 (by decide) ?_
      exact w_lv [2, 1, 0] (ih (k + 1) (by omega))
  refine w_iconst (v := 0) dX6_nimSum_0 (by decide) ?_
  refine w_istore_n dX6_nimSum_1 (by decide) rfl ?_
  refine w_iconst (v := 0) dX6_nimSum_2 (by decide) ?_
  refine w_istore_n dX6_nimSum_3 (by decide) rfl ?_
  exact w_lv [2, 1, 0] (loop A.st.hs.length 0 (by omega))
end FD
