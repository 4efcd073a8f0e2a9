/-! HeapGames$Solver: solveBelow, and what is read -/
def frY (I I' : Nat → Nat → Int32) : Prop := (∀ o, o ≠ 47 → o ≠ 48 → o ≠ 50 → I' o = I o) ∧ ∀ k, k ≠ 3 → I' 47 k = I 47 k
theorem frY.refl (I : Nat → Nat → Int32) : frY I I := ⟨fun _ _ _ _ => rfl, fun _ _ => rfl⟩
theorem frY.trans {I I' I'' : Nat → Nat → Int32} (h : frY I I') (h' : frY I' I'') : frY I I'' := ⟨fun o a b d => (h'.1 o a b d).trans (h.1 o a b d), fun k a => (h'.2 k a).trans (h.2 k a)⟩
theorem frX.y {I I' : Nat → Nat → Int32} (h : frX I I') : frY I I' := ⟨fun o a _ d => h.1 o a d, h.2⟩
theorem svOK.frY {I I' : Nat → Nat → Int32} {c : Cf} (h : svOK I c) (f : frY I I') : svOK I' c := by
  obtain ⟨h1, ⟨s, h2, h3⟩, h4, h5⟩ := h
  refine ⟨by rw [f.2 6 (by decide)]; exact h1, ⟨s, by rw [f.2 7 (by decide)]; exact h2, h3⟩, by rw [f.2 8 (by decide)]; exact h4, ?_⟩
  intro h hh n hn
  rw [f.1 49 (by decide) (by decide) (by decide)]
  exact h5 h hh n hn
def clo (T : Nat → Nat) (st : Nat) : Prop := ∀ p, p < 262144 → kn T st p → ∀ q, lec q p → kn T st q
def upT (T : Nat → Nat) (p v : Nat) : Nat → Nat := fun x => if x = p then v else T x
/-- the table serves: all it tells is so, and with each all below -/
def svT (I : Nat → Nat → Int32) (c : Cf) (st : Nat) (T : Nat → Nat) : Prop := tbOK I st T ∧ slv c T st ∧ clo T st
theorem kn_up {T : Nat → Nat} {st p e q : Nat} (he : e < 8192) : kn (upT T p (8192 * st + e)) st q ↔ q = p ∨ kn T st q := by
  unfold kn upT
  split
  · rename_i h
    constructor
    · intro _; exact Or.inl h
    · intro _; omega
  · rename_i h
    constructor
    · intro q; exact Or.inr q
    · rintro (q | q)
      · exact absurd q h
      · exact q
theorem svT.add {I I' : Nat → Nat → Int32} {c : Cf} {st p : Nat} {T : Nat → Nat} (h : svT I c st T) (f : frX I I') (hm : c.m ≤ 4) (hp : p < 262144) (hb : ∀ q, lec q p → q ≠ p → kn T st q) : svT (up2 I' 48 p (nI (8192 * st + enc (val c p)))) c st (upT T p (8192 * st + enc (val c p))) := by
  obtain ⟨⟨h1, h2, h3, h4⟩, h5, h6⟩ := h
  have he := enc_lt hm hp
  refine ⟨⟨by rw [up2_n _ _ (by simp), f.2 5 (by decide)]; exact h1, h2, h3, fun q hq => ?_⟩, fun q hq hk => ?_, fun q hq hk r hr => ?_⟩
  · unfold upT
    split
    · rename_i e
      rw [e]
      exact ⟨up2_s .., by omega⟩
    · rename_i e
      rw [up2_n _ _ (by simp [e]), f.1 48 (by decide) (by decide)]
      exact h4 q hq
  · rcases Decidable.em (q = p) with e | e
    · rw [e, upT, if_pos rfl]
      omega
    · rw [kn_up he] at hk
      rcases hk with hk | hk
      · exact absurd hk e
      · rw [upT, if_neg e]
        exact h5 q hq hk
  · rw [kn_up he] at hk ⊢
    rcases hk with hk | hk
    · subst hk
      rcases Decidable.em (r = q) with e | e
      · exact Or.inl e
      · exact Or.inr (hb r hr e)
    · exact Or.inr (h6 q hq hk r hr)
theorem svT.fr {I I' : Nat → Nat → Int32} {c : Cf} {st : Nat} {T : Nat → Nat} (h : svT I c st T) (f : frX I I') : svT I' c st T := ⟨h.1.fr f, h.2⟩
section SC
variable (E : GE) (l : Launch)
variable {I : Nat → Nat → Int32} {J : Nat → Nat → Int64} {R : Nat → Nat → Option Nat} {D : Nat → Nat → UInt64} {N : Nat} {ex : Bool}
set_option maxRecDepth 100000 in
theorem c_solveBelow (hv : isV R N) {c : Cf} (hc : c.ok) (hs : svOK I c) {st : Nat} {T : Nat → Nat} (ht : svT I c st T) {t : Nat} (hp : t < 262144) :
    g_Ct E l mX3_solveBelow 4 99 0 0 [.ref 47, .int (nI t)] (I, J, R, D, N, ex) (g_rv (fun I' => frY I I' ∧ ∃ T', svT I' c st T' ∧ kn T' st t) J R D N ex) := by
  refine g_Ct.of (by decide +kernel) (lb rfl) ?_
  have h51 := hv.1
  have hm4 := hc.1
  have hst1 := ht.1.2.1
  obtain ⟨A, B, C, D', Q, hA, hB, hC, hD, htm⟩ := mk5_ex t
  have hQ : Q < 4 := by rw [htm, mk5] at hp; omega
  have htot : (Q + 1) * chb t 4 = tot5 A B C D' Q := by rw [htm]; exact tot_chb hA hB hC hD
  have hchb : chb t 4 ≤ 65536 := chb_le t 4
  have htl : tot5 A B C D' Q ≤ 262144 := by rw [← htot]; exact Nat.le_trans (Nat.mul_le_mul (show Q + 1 ≤ 4 by omega) hchb) (by decide)
  have loop : ∀ (f a b cc d q : Nat) (I' : Nat → Nat → Int32) (T' : Nat → Nat), rk5 A B C D' a b cc d q + f = tot5 A B C D' Q → a ≤ A → b ≤ B → cc ≤ C → d ≤ D' → q < 5 → frY I I' → svT I' c st T' → (∀ x, lec x t → x < mk5 a b cc d q → kn T' st x) →
      g_Wp E l mX3_solveBelow { frames := 4, cells := 0, slots := 0, locals := 99 } (g_Fin E (g_rv (fun I' => frY I I' ∧ ∃ T', svT I' c st T' ∧ kn T' st t) J R D N ex) 0 0) 0 0 23 [(3, .int (nI f)), (2, .int (nI (mk5 a b cc d q))), (0, .ref 47), (1, .int (nI t))] [] (I', J, R, D, N, ex) := by
    intro f
    induction f with
    | zero =>
      intro a b cc d q I' T' hf ha hb hcc hd hq h1 h2 h3
      have hqq : ¬ q ≤ Q := by rw [← rk_lt ha hb hcc hd]; omega
      refine w_iload_n dX3_solveBelow_23 rfl ?_
      refine w_if_le (tgt := 57) dX3_solveBelow_24 (by decide) (fun c_24 => ?_) (fun c_24 => absurd ((by decide)) c_24)
      refine w_vret dX3_solveBelow_57 rfl ⟨_, rfl, ⟨h1, T', h2, h3 t (lec_refl t) (by rw [htm]; unfold mk5; omega)⟩, rfl⟩ (by decide) (by decide)
    | succ f ih =>
      intro a b cc d q I' T' hf ha hb hcc hd hq h1 h2 h3
      have hqq : q ≤ Q := by rw [← rk_lt ha hb hcc hd]; omega
      have hpos : mk5 a b cc d q < 262144 := by unfold mk5; omega
      have hlec : lec (mk5 a b cc d q) t := by rw [htm, mk5_lec hA hB hC hD (by omega) (by omega) (by omega) (by omega)]; exact ⟨ha, hb, hcc, hd, hqq⟩
      obtain ⟨a', b', c', d', q', e1, e2, e3, e4, e5, e6, e7, e8⟩ := fol_ex (q := q) ha hb hcc hd
      have hgap : ∀ x, lec x t → x < mk5 a' b' c' d' q' → x < mk5 a b cc d q ∨ x = mk5 a b cc d q := fun x hx hx2 => fol_gap hA hB hC hD ha hb hcc hd (by rw [← htm]; exact hx) (by rw [e5]; exact hx2)
      have hbel : ∀ x, lec x (mk5 a b cc d q) → x ≠ mk5 a b cc d q → kn T' st x := fun x hx hne => h3 x (lec_trans hx hlec) (by have := lec_le hx; omega)
      have hfl : f + 1 < 2 ^ 31 := by omega
      by_cases hkn : kn T' st (mk5 a b cc d q)
      · have hkn' : T' (mk5 a b cc d q) / 8192 = st := hkn
        have hT0 : T' (mk5 a b cc d q) < 2 ^ 31 := by have := (h2.1.2.2.2 _ hpos).2; have := h2.1.2.2.1; omega
        refine w_iload_n dX3_solveBelow_23 rfl ?_
        refine w_if_le (tgt := 57) dX3_solveBelow_24 (by decide) (fun c_24 => absurd c_24 ((nI_nle (by omega) (by omega)))) (fun c_24 => ?_)
        refine w_aload_n dX3_solveBelow_27 rfl ?_
        refine w_iload_n dX3_solveBelow_28 rfl ?_
        refine y_callV dX3_solveBelow_29 lk_X3_93 [.int (nI (mk5 a b cc d q))] rfl (c_foundAt E l hv h2.1 hpos) (g_recv.obj (ci := 3) rfl (by decide) (show 47 < N by omega)) rfl ⟨⟨by decide, by decide⟩, by decide, by decide⟩ (lb rfl) ?_
        rw [if_pos hkn']
        refine w_if_ne (tgt := 45) dX3_solveBelow_32 (by decide) (fun c_32 => ?_) (fun c_32 => absurd c_32 ((nI_ne0 (by omega) hT0)))
        refine w_iload_n dX3_solveBelow_45 rfl ?_
        refine w_iload_n dX3_solveBelow_46 rfl ?_
        refine y_callS dX3_solveBelow_47 lk_X3_109 [.int (nI (mk5 a b cc d q)), .int (nI t)] rfl (by have := c_followingBelow E l (I', J, R, D, N, ex) (a := a) (b := b) (c := cc) (d := d) (q := q) hA hB hC hD (by omega) (by omega) (by omega) (by omega) hq (show Q < 5 by omega); rw [e5, ← htm] at this; exact this) rfl ⟨⟨by decide, by decide⟩, by decide, by decide⟩ (lb rfl) ?_
        refine w_istore_n dX3_solveBelow_50 (by decide) rfl ?_
        refine w_iinc (v := nI f) dX3_solveBelow_51 rfl (nI_dec _) (by decide) rfl ?_
        refine w_goto (tgt := 23) dX3_solveBelow_54 (by decide) ?_
        exact w_lv [3, 2, 0, 1] (ih a' b' c' d' q' _ T' (by omega) e1 e2 e3 e4 (by omega) h1 h2 (fun x hx hx2 => by rcases hgap x hx hx2 with z | z; exact h3 x hx z; rw [z]; exact hkn))
      · have hkn' : ¬ T' (mk5 a b cc d q) / 8192 = st := hkn
        refine w_iload_n dX3_solveBelow_23 rfl ?_
        refine w_if_le (tgt := 57) dX3_solveBelow_24 (by decide) (fun c_24 => absurd c_24 ((nI_nle (by omega) (by omega)))) (fun c_24 => ?_)
        refine w_aload_n dX3_solveBelow_27 rfl ?_
        refine w_iload_n dX3_solveBelow_28 rfl ?_
        refine y_callV dX3_solveBelow_29 lk_X3_93 [.int (nI (mk5 a b cc d q))] rfl (c_foundAt E l hv h2.1 hpos) (g_recv.obj (ci := 3) rfl (by decide) (show 47 < N by omega)) rfl ⟨⟨by decide, by decide⟩, by decide, by decide⟩ (lb rfl) ?_
        rw [if_neg hkn']
        refine w_if_ne (tgt := 45) dX3_solveBelow_32 (by decide) (fun c_32 => absurd (rfl) c_32) (fun c_32 => ?_)
        refine w_aload_n dX3_solveBelow_35 rfl ?_
        refine w_iload_n dX3_solveBelow_36 rfl ?_
        refine w_aload_n dX3_solveBelow_37 rfl ?_
        refine w_iload_n dX3_solveBelow_38 rfl ?_
        refine v_callV dX3_solveBelow_39 lk_X3_103 [.int (nI (mk5 a b cc d q))] rfl (c_solve E l hv hc (hs.frY h1) h2.1 h2.2.1 hpos (fun x hx => by have := mv_wt hm4 (mem_mvs hx); exact hbel _ this.2.2.2 (by omega))) (g_recv.obj (ci := 3) rfl (by decide) (show 47 < N by omega)) rfl ⟨⟨by decide, by decide⟩, by decide, by decide⟩ (lb rfl) (fun x_39 I2 h_39 => ?_)
        obtain ⟨k1, k2⟩ := h_39
        rw [k1]
        refine z_callV dX3_solveBelow_42 lk_X3_106 [.int (nI (mk5 a b cc d q)), .int (nI (enc (val c (mk5 a b cc d q))))] rfl (c_keep E l hv (h2.1.fr k2) hpos (enc_lt hm4 hpos)) (g_recv.obj (ci := 3) rfl (by decide) (show 47 < N by omega)) rfl ⟨⟨by decide, by decide⟩, by decide, by decide⟩ (lb rfl) ?_
        refine w_iload_n dX3_solveBelow_45 rfl ?_
        refine w_iload_n dX3_solveBelow_46 rfl ?_
        refine y_callS dX3_solveBelow_47 lk_X3_109 [.int (nI (mk5 a b cc d q)), .int (nI t)] rfl (by have := c_followingBelow E l (up2 I2 48 (mk5 a b cc d q) (nI (8192 * st + enc (val c (mk5 a b cc d q)))), J, R, D, N, ex) (a := a) (b := b) (c := cc) (d := d) (q := q) hA hB hC hD (by omega) (by omega) (by omega) (by omega) hq (show Q < 5 by omega); rw [e5, ← htm] at this; exact this) rfl ⟨⟨by decide, by decide⟩, by decide, by decide⟩ (lb rfl) ?_
        refine w_istore_n dX3_solveBelow_50 (by decide) rfl ?_
        refine w_iinc (v := nI f) dX3_solveBelow_51 rfl (nI_dec _) (by decide) rfl ?_
        refine w_goto (tgt := 23) dX3_solveBelow_54 (by decide) ?_
        refine w_lv [3, 2, 0, 1] (ih a' b' c' d' q' _ _ (by omega) e1 e2 e3 e4 (by omega) (h1.trans (k2.y.trans ⟨fun o _ p2 _ => by funext j; simp [up2, p2], fun k _ => by simp [up2]⟩)) (h2.add k2 hm4 hpos hbel) (fun x hx hx2 => ?_))
        rw [kn_up (enc_lt hm4 hpos)]
        rcases hgap x hx hx2 with z | z
        · exact Or.inr (h3 x hx z)
        · exact Or.inl z
  refine w_aload_n dX3_solveBelow_0 rfl ?_
  refine w_iload_n dX3_solveBelow_1 rfl ?_
  refine y_callV dX3_solveBelow_2 lk_X3_93 [.int (nI t)] rfl (c_foundAt E l hv ht.1 hp) (g_recv.obj (ci := 3) rfl (by decide) (show 47 < N by omega)) rfl ⟨⟨by decide, by decide⟩, by decide, by decide⟩ (lb rfl) ?_
  refine w_if_eq (tgt := 9) dX3_solveBelow_5 (by decide) (fun c_5 => ?_) (fun c_5 => ?_)
  · refine w_iconst (v := 0) dX3_solveBelow_9 (by decide) ?_
    refine w_istore_n dX3_solveBelow_10 (by decide) rfl ?_
    refine w_iload_n dX3_solveBelow_11 rfl ?_
    refine y_callSN dX3_solveBelow_12 lk_X3_97 [.int (nI t)] rfl (c_passesOf E l _ _) rfl ⟨⟨by decide, by decide⟩, by decide, by decide⟩ (lb rfl) ?_
    rw [passes_nI (by omega), show t / 2 ^ 16 = Q by rw [htm]; exact mk5_q hA hB hC hD]
    refine w_iconst (v := 1) dX3_solveBelow_15 (by decide) ?_
    refine w_iadd dX3_solveBelow_16 ?_
    rw [nI_1]
    refine w_iload_n dX3_solveBelow_17 rfl ?_
    refine y_callS dX3_solveBelow_18 lk_X3_100 [.int (nI t)] rfl (c_countHeapsBelow E l _ (by omega)) rfl ⟨⟨by decide, by decide⟩, by decide, by decide⟩ (lb rfl) ?_
    refine w_imul dX3_solveBelow_21 ?_
    rw [pk_mul, htot]
    refine w_istore_n dX3_solveBelow_22 (by decide) rfl ?_
    refine w_lv [3, 2, 0, 1] (loop (tot5 A B C D' Q) 0 0 0 0 0 I T (by simp [rk5]) (by omega) (by omega) (by omega) (by omega) (by omega) (frY.refl I) ht (fun x _ h => absurd h (Nat.not_lt_zero x)))
  · refine w_vret dX3_solveBelow_8 rfl ⟨_, rfl, ⟨frY.refl I, T, ht, Classical.byContradiction fun z => c_5 (by rw [if_neg (show ¬ T t / 8192 = st from z)]; rfl)⟩, rfl⟩ (by decide) (by decide)
end SC
