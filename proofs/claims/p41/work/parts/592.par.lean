/-! HeapGames.parse -/
theorem rC.drf {I I' : Nat → Nat → Int32} {J J' : Nat → Nat → Int64} {sw : Bool} {A : AS} {n : Nat} (h : rC I J sw A n) (f : ∀ o, o ≠ 23 → (o < dg sw ∨ dg sw + 22 ≤ o) → I' o = I o) (fJ : ∀ o, o ≠ 23 → (o < dg sw ∨ dg sw + 22 ≤ o) → J' o = J o) (hd' : drC I' J' (dg sw)) {tx : Nat → Nat} {tl : Nat} (ht : txC I' tx tl) : rC I' J' sw (A.ru, A.nr, A.st, A.hi, A.sn, tx, tl) n := by
  have hg := gm_b sw
  have hd := dg_b sw
  obtain ⟨h1, h2, h3, h4, h5, h6, h7, h8, h9, h10, h11⟩ := h
  have e : ∀ o, o ≠ 23 → (o < dg sw ∨ dg sw + 22 ≤ o) → I' o = I o := f
  have hk6 : A.nr ≤ 6 := h1.2
  refine ⟨⟨by rw [e _ (by omega) (by omega)]; exact h1.1, h1.2⟩, h2, ⟨by rw [e _ (by omega) (by omega)]; exact h3.1, fun k hk => ?_⟩, fun k hk m hm => ?_, h5, h6.fr (e _ (by omega) (by omega)) (e _ (by omega) (by omega)), hd', ?_, h9.fr (fun o a b => e o (by omega) (by omega)), fun k hk => ?_, ht⟩
  · rw [e _ (by omega) (by omega), fJ _ (by omega) (by omega)]; exact h3.2 k hk
  · have hk' : k < A.nr := hk
    rw [e _ (by omega) (by omega)]; exact h4 k hk' m hm
  · obtain ⟨st, T, q1, q2, q3, q4⟩ := h8
    have e47 := e 47 (by omega) (by omega)
    have e48 := e 48 (by omega) (by omega)
    have e49 := e 49 (by omega) (by omega)
    refine ⟨st, T, q1, by rw [e47]; exact q2, fun p hp => by rw [e48]; exact q3 p hp, ?_⟩
    rcases q4 with q4 | ⟨rs, mi, r1, r2, r3, r4⟩
    · exact Or.inl (by rw [e47]; exact q4)
    · refine Or.inr ⟨rs, mi, r1, by rw [e47]; exact r2, ?_, ?_⟩
      · obtain ⟨s1, ⟨t, s2, s3⟩, s4, s5⟩ := r3
        exact ⟨by rw [e47]; exact s1, ⟨t, by rw [e47]; exact s2, s3⟩, by rw [e47]; exact s4, fun h hh n hn => by rw [e49]; exact s5 h hh n hn⟩
      · obtain ⟨⟨s1, s2, s3, s4⟩, s5⟩ := r4
        exact ⟨⟨by rw [e47]; exact s1, s2, s3, fun p hp => by rw [e48]; exact s4 p hp⟩, s5⟩
  · rw [e 74 (by omega) (by omega)]
    exact ⟨(h10 k hk).1, fun s hs => ⟨((h10 k hk).2 s hs).1, ((h10 k hk).2 s hs).2.fr (e _ (by omega) (by omega)) (e _ (by omega) (by omega))⟩⟩
theorem isG.fr {R R' : Nat → Nat → Option Nat} {N g : Nat} (h : isG R N g) (hg : g = 1 ∨ g = 25) (f : ∀ o, o ≠ 0 → o ≠ 23 → R' o = R o) : isG R' N g := by
  obtain ⟨h1, h2, h3, h4, h5, ⟨s1, s2, s3, s4⟩, h7⟩ := h
  refine ⟨h1, h2, h3, by rw [f _ (by omega) (by omega)]; exact h4, by rw [f _ (by omega) (by omega)]; exact h5, ⟨s1, s2, s3, by rw [f _ (by omega) (by omega)]; exact s4⟩, fun k hk => ?_⟩
  obtain ⟨r0, r1, r2, r3, r4, r5, r6⟩ := h7 k hk
  exact ⟨by rw [f _ (by omega) (by omega)]; exact r0, r1, r2, r3, r4, by rw [f _ (by omega) (by omega)]; exact r5, by rw [f _ (by omega) (by omega)]; exact r6⟩
def swR (R : Nat → Nat → Option Nat) (sw : Bool) : Nat → Nat → Option Nat := up2 (up2 R 0 0 (some (dg sw))) 23 6 (some (gm sw))
theorem swR_o {R : Nat → Nat → Option Nat} {sw : Bool} (o : Nat) (h0 : o ≠ 0) (h1 : o ≠ 23) : swR R sw o = R o := by funext j; unfold swR; rw [up2_n _ _ (by simp [h1]), up2_n _ _ (by simp [h0])]
theorem gm_sw (sw : Bool) : gm (!sw) = dg sw ∧ dg (!sw) = gm sw := by cases sw <;> exact ⟨rfl, rfl⟩
theorem lk.sw {R : Nat → Nat → Option Nat} {N : Nat} {sw : Bool} (h : lk R N sw) : lk (swR R sw) N (!sw) := by
  have hg := gm_b sw
  have hd := dg_b sw
  obtain ⟨e1, e2⟩ := gm_sw sw
  obtain ⟨h1, h2, h3, h4, h5, h6, h7, h8, h9, h10, h11, h12, h13, h14, h15, h16, h17⟩ := h
  have f : ∀ o, o ≠ 0 → o ≠ 23 → swR R sw o = R o := swR_o
  have f0 : ∀ k, k ≠ 0 → swR R sw 0 k = R 0 k := fun k hk => by unfold swR; rw [up2_n _ _ (by simp), up2_n _ _ (by simp [hk])]
  have f23 : ∀ k, k ≠ 6 → swR R sw 23 k = R 23 k := fun k hk => by unfold swR; rw [up2_n _ _ (by simp [hk]), up2_n _ _ (by simp)]
  unfold lk
  rw [e1, e2]
  refine ⟨h2.fr (by omega) f, h1.fr (by omega) f, ⟨h3.1, by rw [f _ (by decide) (by decide)]; exact h3.2.1, by rw [f _ (by decide) (by decide)]; exact h3.2.2.1, by rw [f _ (by decide) (by decide)]; exact h3.2.2.2⟩, ⟨h4.1, by rw [f _ (by decide) (by decide)]; exact h4.2.1, fun i hi => ?_⟩, by unfold swR; rw [up2_n _ _ (by simp), up2_s], by rw [f0 1 (by decide)]; exact h6, by rw [f0 2 (by decide)]; exact h7, by rw [f0 3 (by decide)]; exact h8, by rw [f0 4 (by decide)]; exact h9, by rw [f0 5 (by decide)]; exact h10, by rw [f23 0 (by decide)]; exact h11, by unfold swR; rw [up2_s], by rw [f _ (by decide) (by decide)]; exact h13, by rw [f _ (by decide) (by decide)]; exact h14, ⟨h15.1, h15.2.1, h15.2.2.1, by rw [f _ (by decide) (by decide)]; exact h15.2.2.2⟩, ⟨h16.1, h16.2.1, h16.2.2.1, by rw [f _ (by decide) (by decide)]; exact h16.2.2.2⟩, h17⟩
  obtain ⟨a1, a2, a3, a4, a5⟩ := h4.2.2 i hi
  exact ⟨by rw [f _ (by decide) (by decide)]; exact a1, a2, a3, a4, by rw [f _ (by omega) (by omega)]; exact a5⟩
theorem PS.rd_e (P : PS) {k : Nat} (h : k < P.ru.length) : P.ru.getD k (0, 0, []) = P.ru[k] := by rw [List.getD_eq_getElem?_getD, List.getElem?_eq_getElem h]; rfl
/-- the rules that stand after a text P was read -/
def prA (ru : Ru) (P : PS) : Prop := ru.2.2 = shM P.sh ∧ ∀ k (h : k < P.ru.length), ru.1 k = P.ru[k].2.1 ∧ ∀ a, ru.2.1 k a = decide (a ∈ P.ru[k].2.2)
theorem ruC.dr {I : Nat → Nat → Int32} {J : Nat → Nat → Int64} {g : Nat} {ru : Ru} (h : ruC I J g ru) (hok : ruOK ru) : drC I J g := fun k hk => ⟨⟨ru.1 k, (hok.1 k hk).1, (h.2 k hk).1⟩, by rw [(h.2 k hk).2]; exact (hok.1 k hk).2⟩
theorem drC.ru {I : Nat → Nat → Int32} {J : Nat → Nat → Int64} {g : Nat} {P : PS} (hd : drC I J g) (hP : psOK P) (hp : psC I J g P) : ∃ ru : Ru, prA ru P ∧ ruOK ru ∧ ruC I J g ru := by
  refine ⟨(fun k => (I (g + 4 + 3 * k) 1).toInt.toNat, fun k => clS (J (g + 4 + 3 * k) 2), shM P.sh), ⟨rfl, fun k hk => ?_⟩, ⟨fun k hk => ?_, ?_, hp.2.2.2.2.1.2⟩, hp.2.2.2.2.1.1, fun k hk => ⟨?_, rfl⟩⟩
  · obtain ⟨a1, a2, a3, a4⟩ := hp.2.2.2.1 k hk
    obtain ⟨b1, b2, b3, b4⟩ := hP.1 _ (List.getElem_mem hk)
    refine ⟨by show (I (g + 4 + 3 * k) 1).toInt.toNat = _; rw [a3, nI_toInt (by omega), Int.toNat_natCast], fun a => ?_⟩
    show clS (J (g + 4 + 3 * k) 2) a = _
    rw [clS_lb]
    by_cases h6 : a ≤ 60
    · rw [decide_eq_true h6, Bool.true_and, a4 a (by omega)]
    · rw [decide_eq_false h6, Bool.false_and]
      exact (decide_eq_false (fun q => h6 (b4 a q).2)).symm
  · obtain ⟨⟨kk, k1, k2⟩, k3⟩ := hd k hk
    refine ⟨?_, k3⟩
    show (I (g + 4 + 3 * k) 1).toInt.toNat ≤ 4
    rw [k2, nI_toInt (by omega), Int.toNat_natCast]
    exact k1
  · exact Nat.le_trans (amt_al P.sh _ (fun a _ _ a3 => by rw [shM_b] at a3; exact of_decide_eq_true a3)) hP.2.2.2.1.1
  · obtain ⟨⟨kk, k1, k2⟩, k3⟩ := hd k hk
    show _ = nI (I (g + 4 + 3 * k) 1).toInt.toNat
    rw [k2, nI_toInt (by omega), Int.toNat_natCast]
section PA
variable (E : GE) (l : Launch)
variable {I : Nat → Nat → Int32} {J : Nat → Nat → Int64} {R : Nat → Nat → Option Nat} {D : Nat → Nat → UInt64} {N : Nat} {ex : Bool} {sw : Bool} {A : AS} {n L : Nat}
set_option maxRecDepth 100000 in
theorem c_parse_x (hl : lk R N sw) (h : rC I J sw A n) {x : Int32} (hx : x < 0 ∨ ¬ x < nI (A.tl + 1)) : g_Ct E l mX6_parse 9 192 1 6 [.ref 0, .int x] (I, J, R, D, N, ex) (g_ths "java/lang/IllegalArgumentException" (I, J, R, D, N, false)) := by
  refine g_Ct.of (by decide +kernel) (lb rfl) ?_
  have hN := hl.2.2.2.2.2.2.2.2.2.2.2.2.2.2.2.2
  have ht := h.2.2.2.2.2.2.2.2.2.2
  have h4 := ht.2.1
  refine w_iload_n dX6_parse_0 rfl ?_
  refine w_if_lt (tgt := 15) dX6_parse_1 (by decide) (fun c_1 => ?_) (fun c_1 => ?_)
  · refine w_throw (X := "java/lang/IllegalArgumentException") (tx := "bytes is out of range") rfl rfl (by decide +kernel) (by decide +kernel) dX6_parse_15 dX6_parse_18 dX6_parse_19 dX6_parse_21 dX6_parse_24 (by decide) (lb rfl) (by decide) (by decide) (by decide) (by decide) ⟨rfl, rfl⟩
  · refine w_iload_n dX6_parse_4 rfl ?_
    refine w_aload_n dX6_parse_5 rfl ?_
    refine x_getr (ci := 6) (k := 1) (a := 23) dX6_parse_6 rfl (by decide) (by decide) (by omega) fl_X6_19 (Or.inl ⟨_, rfl⟩) hl.2.2.2.2.2.1 ?_
    refine x_geti (ci := 5) (k := 1) dX6_parse_9 rfl (by decide) (by decide) (by omega) fl_X6_48 rfl ?_
    rw [ht.1]
    refine w_icmp_le (tgt := 25) dX6_parse_12 (by decide) (fun c_12 => absurd c_12 ((by rcases hx with y | y; exact absurd y c_1; intro q; apply y; rw [Int32.lt_iff_toInt_lt, nI_toInt (by omega)]; rw [Int32.le_iff_toInt_le, nI_toInt (by omega)] at q; omega))) (fun c_12 => ?_)
    refine w_throw (X := "java/lang/IllegalArgumentException") (tx := "bytes is out of range") rfl rfl (by decide +kernel) (by decide +kernel) dX6_parse_15 dX6_parse_18 dX6_parse_19 dX6_parse_21 dX6_parse_24 (by decide) (lb rfl) (by decide) (by decide) (by decide) (by decide) ⟨rfl, rfl⟩
set_option maxRecDepth 100000 in
theorem c_parse_f (hl : lk R N sw) (h : rC I J sw A n) (hL : L ≤ A.tl) {q : Nat × Nat} (hQ : rdF A.tx L = .inl q) : g_Ct E l mX6_parse 9 192 0 0 [.ref 0, .int (nI L)] (I, J, R, D, N, ex) (g_rj (fun x I' J' => x = flS q.1 q.2 ∧ frM I I' ∧ (∀ o, 79 ≤ o → J' o = J o) ∧ rC I' J' sw (A.ru, A.nr, A.st, A.hi, A.sn, A.tx, 0) n) R D N ex) := by
  refine g_Ct.of (by decide +kernel) (lb rfl) ?_
  have hN := hl.2.2.2.2.2.2.2.2.2.2.2.2.2.2.2.2
  have ht := h.2.2.2.2.2.2.2.2.2.2
  have h4 := ht.2.1
  have hdb := dg_b sw
  refine w_iload_n dX6_parse_0 rfl ?_
  refine w_if_lt (tgt := 15) dX6_parse_1 (by decide) (fun c_1 => absurd c_1 ((nI_pos (by omega)))) (fun c_1 => ?_)
  refine w_iload_n dX6_parse_4 rfl ?_
  refine w_aload_n dX6_parse_5 rfl ?_
  refine x_getr (ci := 6) (k := 1) (a := 23) dX6_parse_6 rfl (by decide) (by decide) (by omega) fl_X6_19 (Or.inl ⟨_, rfl⟩) hl.2.2.2.2.2.1 ?_
  refine x_geti (ci := 5) (k := 1) dX6_parse_9 rfl (by decide) (by decide) (by omega) fl_X6_48 rfl ?_
  rw [ht.1]
  refine w_icmp_le (tgt := 25) dX6_parse_12 (by decide) (fun c_12 => ?_) (fun c_12 => absurd ((nI_le (by omega) (by omega))) c_12)
  refine w_aload_n dX6_parse_25 rfl ?_
  refine x_getr (ci := 6) (k := 1) (a := 23) dX6_parse_26 rfl (by decide) (by decide) (by omega) fl_X6_19 (Or.inl ⟨_, rfl⟩) hl.2.2.2.2.2.1 ?_
  refine w_iconst (v := 0) dX6_parse_29 (by decide) ?_
  refine x_puti (ci := 5) (k := 1) dX6_parse_30 rfl (by decide) (by decide) (by omega) fl_X6_48 rfl rfl ?_
  refine w_aload_n dX6_parse_33 rfl ?_
  refine x_getr (ci := 6) (k := 1) (a := 23) dX6_parse_34 rfl (by decide) (by decide) (by omega) fl_X6_19 (Or.inl ⟨_, rfl⟩) hl.2.2.2.2.2.1 ?_
  refine w_iload_n dX6_parse_37 rfl ?_
  refine j_callV dX6_parse_38 lk_X6_63 [.int (nI L)] rfl (c_readText E l (tx := A.tx) hl.2.2.2.2.2.2.2.2.2.2.1 hl.2.2.2.2.2.2.2.2.2.2.2.1 hl.2.1 (by omega) (by omega) (show L ≤ 400 by omega) (fun i hi => by rw [up2_n _ _ (by simp)]; exact ht.2.2 i (by omega)) (h.2.2.2.2.2.2.1.fr (fun o a b => by funext j; exact up2_n _ _ (fun q => by omega)) (fun _ _ _ => rfl))) (g_recv.obj (ci := 5) rfl (by decide) (show 23 < N by omega)) rfl ⟨⟨by decide, by decide⟩, by decide, by decide⟩ (lb rfl) (fun x_38 I2 J2 h_38 => ?_)
  rw [hQ] at h_38
  obtain ⟨⟨f1, f2, f3⟩, p1, p2, p3⟩ := h_38
  refine w_if_ne (tgt := 52) dX6_parse_41 (by decide) (fun c_41 => absurd (p1) c_41) (fun c_41 => ?_)
  refine w_aload_n dX6_parse_44 rfl ?_
  refine x_getr (ci := 6) (k := 1) (a := 23) dX6_parse_45 rfl (by decide) (by decide) (by omega) fl_X6_19 (Or.inl ⟨_, rfl⟩) hl.2.2.2.2.2.1 ?_
  refine x_geti (ci := 5) (k := 9) dX6_parse_48 rfl (by decide) (by decide) (by omega) fl_X6_67 rfl ?_
  rw [p2]
  refine w_iret dX6_parse_51 rfl rfl ⟨_, _, _, rfl, ⟨rfl, fun o ho => by rw [f1 o (by omega) (by omega)]; funext j; exact up2_n _ _ (by omega), fun o ho => f3 o (by omega) (by omega), h.drf (fun o a b => by rw [f1 o a b]; funext j; exact up2_n _ _ (by simp [a])) f3 p3 ⟨by rw [f2, up2_s]; rfl, by decide, fun i hi => absurd hi (Nat.not_lt_zero i)⟩⟩, rfl⟩ (by decide) (by decide)
set_option maxRecDepth 100000 in
theorem c_parse_t (hl : lk R N sw) (h : rC I J sw A n) (hL : L ≤ A.tl) {P : PS} (hQ : rdF A.tx L = .inr P) : g_Ct E l mX6_parse 9 192 0 0 [.ref 0, .int (nI L)] (I, J, R, D, N, ex) (fun o w => ∃ I' J' ru, o = .inr (some (.int (nI P.ru.length))) ∧ w = (I', J', swR R sw, D, N, ex) ∧ frM I I' ∧ (∀ o, 79 ≤ o → J' o = J o) ∧ prA ru P ∧ rC I' J' (!sw) (ru, P.ru.length, P.st, [], fun _ => none, A.tx, 0) n) := by
  refine g_Ct.of (by decide +kernel) (lb rfl) ?_
  have hN := hl.2.2.2.2.2.2.2.2.2.2.2.2.2.2.2.2
  have ht := h.2.2.2.2.2.2.2.2.2.2
  have h4 := ht.2.1
  have hdb := dg_b sw
  have hgb := gm_b sw
  have hP : psOK P := rdTx_ok _ _ _ _ (Nat.zero_le _) psOK_nil hQ
  have hR2 := hl.sw
  obtain ⟨e1, e2⟩ := gm_sw sw
  have loop : ∀ (I2 : Nat → Nat → Int32) (J2 : Nat → Nat → Int64) (I3 : Nat → Nat → Int32), (∀ o, o ≠ 23 → (o < dg sw ∨ dg sw + 22 ≤ o) → I2 o = I o) → (∀ o, o ≠ 23 → (o < dg sw ∨ dg sw + 22 ≤ o) → J2 o = J o) → I2 23 1 = 0 → psC I2 J2 (dg sw) P → (∀ k, k < P.ru.length → ∀ m, m < 301 → I3 (dg sw + 5 + 3 * k) m = nI (gv (P.ru.getD k (0, 0, [])).2.1 (clS (J2 (dg sw + 4 + 3 * k) 2)) m)) → (∀ o, (∀ k, k < 6 → o ≠ dg sw + 5 + 3 * k ∧ o ≠ dg sw + 6 + 3 * k) → ∀ j, I3 o j = I2 o j) → ∀ (f i : Nat) (I' : Nat → Nat → Int32), i + f = 2 → (∀ o, o ≠ 74 → I' o = up2 (up2 I3 47 4 (-1)) 51 2 0 o) → (∀ j, j < i → I' 74 j = 0) → g_Wp E l mX6_parse { frames := 9, cells := 0, slots := 0, locals := 192 } (g_Fin E (fun o w => ∃ I' J' ru, o = .inr (some (.int (nI P.ru.length))) ∧ w = (I', J', swR R sw, D, N, ex) ∧ frM I I' ∧ (∀ o, 79 ≤ o → J' o = J o) ∧ prA ru P ∧ rC I' J' (!sw) (ru, P.ru.length, P.st, [], fun _ => none, A.tx, 0) n) 0 0) 0 0 99 [(3, .int (nI i)), (0, .ref 0), (1, .int (nI L)), (2, .ref (gm sw))] [] (I', J2, swR R sw, D, N, ex) := by
    intro I2 J2 I3 f1 f3 f2 p2 v1 v2 f
    have e3 : ∀ o, (∀ k, k < 6 → o ≠ dg sw + 5 + 3 * k ∧ o ≠ dg sw + 6 + 3 * k) → I3 o = I2 o := fun o ho => by funext j; exact v2 o ho j
    induction f with
    | zero =>
      intro i I' hi g1 g2
      obtain rfl : i = 2 := by omega
      have gg : ∀ o, o ≠ 74 → o ≠ 47 → o ≠ 51 → (∀ k, k < 6 → o ≠ dg sw + 5 + 3 * k ∧ o ≠ dg sw + 6 + 3 * k) → I' o = I2 o := fun o a b c d => by rw [g1 o a, ← e3 o d]; funext j; rw [up2_n _ _ (by simp [c]), up2_n _ _ (by simp [b])]
      have gl : ∀ o, o ≠ 23 → (o < 47 ∨ 51 < o) → (o < dg sw ∨ dg sw + 22 ≤ o) → o ≠ 74 → I' o = I o := fun o a b c d => by rw [gg o d (by omega) (by omega) (fun k hk => by omega)]; exact f1 o a c
      have g51 : ∀ k, k ≠ 2 → I' 51 k = I 51 k := fun k hk => by rw [g1 51 (by decide), up2_n _ _ (by simp [hk]), up2_n _ _ (by simp), e3 51 (fun k hk => by omega), f1 51 (by decide) (by omega)]
      have g47 : ∀ k, k ≠ 4 → I' 47 k = I 47 k := fun k hk => by rw [g1 47 (by decide), up2_n _ _ (by simp), up2_n _ _ (by simp [hk]), e3 47 (fun k hk => by omega), f1 47 (by decide) (by omega)]
      have p5 : psC I' J2 (dg sw) P := by
        obtain ⟨q1, q2, q3, q4, q5, q6, q8, q9⟩ := p2
        refine ⟨by rw [gg _ (by omega) (by omega) (by omega) (fun k hk => by omega)]; exact q1, q2, fun k hk => ?_, fun k hk => ?_, by rw [gg _ (by omega) (by omega) (by omega) (fun k hk => by omega)]; exact q5, q6.fr (gg _ (by omega) (by omega) (by omega) (fun k hk => by omega)) (gg _ (by omega) (by omega) (by omega) (fun k hk => by omega)), by rw [gg _ (by omega) (by omega) (by omega) (fun k hk => by omega)]; exact q8, q9⟩
        · rw [gg _ (by omega) (by omega) (by omega) (fun k hk => by omega)]; exact q3 k hk
        · rw [gg _ (by omega) (by omega) (by omega) (fun k hk => by omega)]; exact q4 k hk
      obtain ⟨ru, r1, r2, r3⟩ := p5.2.2.1.ru hP p5
      have hdo := h.2.2.1.dr h.2.1
      obtain ⟨s1, T, s2, s3, s4, _⟩ := h.2.2.2.2.2.2.2.1
      obtain ⟨i1, i2, nx, i3, i4, i5⟩ := h.2.2.2.2.2.2.2.2.1
      have fin : rC I' J2 (!sw) (ru, P.ru.length, P.st, [], fun _ => none, A.tx, 0) n := by
        unfold rC
        rw [e1, e2]
        refine ⟨⟨p5.1, p5.2.1⟩, r2, r3, fun k hk m hm => ?_, p5.2.2.2.2.2.2.2, p5.2.2.2.2.2.1, fun k hk => ?_, ⟨s1, T, s2, by rw [g47 5 (by decide)]; exact s3, fun p hp => ?_, Or.inl ?_⟩, ⟨Nat.zero_le _, ?_, nx, i3, by rw [g51 1 (by decide)]; exact i4, fun i hi => absurd hi (Nat.not_lt_zero i)⟩, fun k hk => ⟨g2 k hk, fun s hs => by cases hs⟩, ⟨?_, Nat.zero_le _, fun i hi => absurd hi (Nat.not_lt_zero i)⟩⟩
        · have hk' : k < P.ru.length := hk
          have h6 := p5.2.1
          rw [g1 _ (by omega), up2_n _ _ (by omega), up2_n _ _ (by omega), v1 k hk' m hm, P.rd_e hk', ← (r1.2 k hk').1, (r3.2 k (by omega)).2]
        · rw [gl _ (by omega) (by omega) (by omega) (by omega), f3 _ (by omega) (by omega)]; exact hdo k hk
        · rw [g1 48 (by decide), show up2 (up2 I3 47 4 (-1)) 51 2 0 48 p = I3 48 p from rfl, e3 48 (fun k hk => by omega), f1 48 (by decide) (by omega)]; exact s4 p hp
        · rw [g1 47 (by decide)]; rfl
        · rw [g1 51 (by decide)]; rfl
        · rw [gg 23 (by decide) (by decide) (by decide) (fun k hk => by omega)]; exact f2
      refine w_iload_n dX6_parse_99 rfl ?_
      refine w_iconst (v := 2) dX6_parse_100 (by decide) ?_
      refine w_icmp_ge (tgt := 117) dX6_parse_101 (by decide) (fun c_101 => ?_) (fun c_101 => absurd ((by decide)) c_101)
      refine w_aload_n dX6_parse_117 rfl ?_
      refine x_getr (ci := 6) (k := 0) (a := dg sw) dX6_parse_118 rfl (by decide) (by decide) (by omega) fl_X6_12 (Or.inl ⟨_, rfl⟩) (hR2.2.2.2.2.1.trans (congrArg some e1)) ?_
      refine x_geti (ci := 0) (k := 1) dX6_parse_121 hl.2.1.1 (by decide) (by decide) (by omega) fl_X6_82 rfl ?_
      rw [p5.1]
      refine w_iret dX6_parse_124 rfl rfl ⟨_, _, ru, rfl, rfl, fun o ho => gl o (by omega) (by omega) (by omega) (by omega), fun o ho => f3 o (by omega) (by omega), r1, fin⟩ (by decide) (by decide)
    | succ f ih =>
      intro i I' hi g1 g2
      refine w_iload_n dX6_parse_99 rfl ?_
      refine w_iconst (v := 2) dX6_parse_100 (by decide) ?_
      refine w_icmp_ge (tgt := 117) dX6_parse_101 (by decide) (fun c_101 => absurd c_101 ((nI_ge (a := i) (b := 2) (by omega) (by omega)))) (fun c_101 => ?_)
      refine w_aload_n dX6_parse_104 rfl ?_
      refine x_getr (ci := 6) (k := 5) (a := 74) dX6_parse_105 rfl (by decide) (by decide) (by omega) fl_X6_43 (Or.inr ⟨_, rfl⟩) hR2.2.2.2.2.2.2.2.2.2.1 ?_
      refine w_iload_n dX6_parse_108 rfl ?_
      refine w_iconst (v := 0) dX6_parse_109 (by decide) ?_
      refine x_zast (j := i) dX6_parse_110 rfl (by omega) rfl (show i < 2 by omega) (by decide) ?_
      refine w_iinc (v := nI (i + 1)) dX6_parse_111 rfl (nI_inc _) (by decide) rfl ?_
      refine w_goto (tgt := 99) dX6_parse_114 (by decide) ?_
      exact w_lv [3, 0, 1, 2] (ih (i + 1) _ (by omega) (fun o ho => by rw [← g1 o ho]; funext j; exact up2_n _ _ (by simp [ho])) (fun j hj => by rcases Nat.lt_or_ge j i with z | z; rw [up2_n _ _ (by omega)]; exact g2 j z; (obtain rfl : j = i := by omega); exact up2_s ..))
  refine w_iload_n dX6_parse_0 rfl ?_
  refine w_if_lt (tgt := 15) dX6_parse_1 (by decide) (fun c_1 => absurd c_1 ((nI_pos (by omega)))) (fun c_1 => ?_)
  refine w_iload_n dX6_parse_4 rfl ?_
  refine w_aload_n dX6_parse_5 rfl ?_
  refine x_getr (ci := 6) (k := 1) (a := 23) dX6_parse_6 rfl (by decide) (by decide) (by omega) fl_X6_19 (Or.inl ⟨_, rfl⟩) hl.2.2.2.2.2.1 ?_
  refine x_geti (ci := 5) (k := 1) dX6_parse_9 rfl (by decide) (by decide) (by omega) fl_X6_48 rfl ?_
  rw [ht.1]
  refine w_icmp_le (tgt := 25) dX6_parse_12 (by decide) (fun c_12 => ?_) (fun c_12 => absurd ((nI_le (by omega) (by omega))) c_12)
  refine w_aload_n dX6_parse_25 rfl ?_
  refine x_getr (ci := 6) (k := 1) (a := 23) dX6_parse_26 rfl (by decide) (by decide) (by omega) fl_X6_19 (Or.inl ⟨_, rfl⟩) hl.2.2.2.2.2.1 ?_
  refine w_iconst (v := 0) dX6_parse_29 (by decide) ?_
  refine x_puti (ci := 5) (k := 1) dX6_parse_30 rfl (by decide) (by decide) (by omega) fl_X6_48 rfl rfl ?_
  refine w_aload_n dX6_parse_33 rfl ?_
  refine x_getr (ci := 6) (k := 1) (a := 23) dX6_parse_34 rfl (by decide) (by decide) (by omega) fl_X6_19 (Or.inl ⟨_, rfl⟩) hl.2.2.2.2.2.1 ?_
  refine w_iload_n dX6_parse_37 rfl ?_
  refine j_callV dX6_parse_38 lk_X6_63 [.int (nI L)] rfl (c_readText E l (tx := A.tx) hl.2.2.2.2.2.2.2.2.2.2.1 hl.2.2.2.2.2.2.2.2.2.2.2.1 hl.2.1 (by omega) (by omega) (show L ≤ 400 by omega) (fun i hi => by rw [up2_n _ _ (by simp)]; exact ht.2.2 i (by omega)) (h.2.2.2.2.2.2.1.fr (fun o a b => by funext j; exact up2_n _ _ (fun q => by omega)) (fun _ _ _ => rfl))) (g_recv.obj (ci := 5) rfl (by decide) (show 23 < N by omega)) rfl ⟨⟨by decide, by decide⟩, by decide, by decide⟩ (lb rfl) (fun x_38 I2 J2 h_38 => ?_)
  rw [hQ] at h_38
  obtain ⟨⟨f1, f2, f3⟩, p1, p2⟩ := h_38
  refine w_if_ne (tgt := 52) dX6_parse_41 (by decide) (fun c_41 => ?_) (fun c_41 => absurd c_41 ((by rw [p1]; decide)))
  refine w_aload_n dX6_parse_52 rfl ?_
  refine x_getr (ci := 6) (k := 0) (a := gm sw) dX6_parse_53 rfl (by decide) (by decide) (by omega) fl_X6_12 (Or.inl ⟨_, rfl⟩) hl.2.2.2.2.1 ?_
  refine w_astore_n dX6_parse_56 (by decide) rfl ?_
  refine w_aload_n dX6_parse_57 rfl ?_
  refine w_aload_n dX6_parse_58 rfl ?_
  refine x_getr (ci := 6) (k := 1) (a := 23) dX6_parse_59 rfl (by decide) (by decide) (by omega) fl_X6_19 (Or.inl ⟨_, rfl⟩) hl.2.2.2.2.2.1 ?_
  refine x_getr (ci := 5) (k := 6) (a := dg sw) dX6_parse_62 rfl (by decide) (by decide) (by omega) fl_X6_70 (Or.inl ⟨_, rfl⟩) hl.2.2.2.2.2.2.2.2.2.2.2.1 ?_
  refine x_putr (ci := 6) (k := 0) dX6_parse_65 rfl (by decide) (by decide) (by omega) fl_X6_12 (Or.inl ⟨_, rfl⟩) (Or.inl rfl) ?_
  refine w_aload_n dX6_parse_68 rfl ?_
  refine x_getr (ci := 6) (k := 1) (a := 23) dX6_parse_69 rfl (by decide) (by decide) (by omega) fl_X6_19 (Or.inl ⟨_, rfl⟩) (by rw [up2_n _ _ (by simp)]; exact hl.2.2.2.2.2.1) ?_
  refine w_aload_n dX6_parse_72 rfl ?_
  refine x_putr (ci := 5) (k := 6) dX6_parse_73 rfl (by decide) (by decide) (by omega) fl_X6_70 (Or.inl ⟨_, rfl⟩) (Or.inl rfl) ?_
  have hkk : ∀ k, k < P.ru.length → I2 (dg sw + 4 + 3 * k) 1 = nI (P.ru.getD k (0, 0, [])).2.1 ∧ (P.ru.getD k (0, 0, [])).2.1 ≤ 4 := (fun k hk => by rw [P.rd_e hk]; exact ⟨(p2.2.2.2.1 k hk).2.2.1, (hP.1 _ (List.getElem_mem hk)).2.1⟩)
  refine (show g_Wp E l mX6_parse { frames := 9, cells := 0, slots := 0, locals := 192 } (g_Fin E _ 0 0) 0 0 76 _ _ (I2, J2, swR R sw, D, N, ex) from ?_)
  refine w_aload_n dX6_parse_76 rfl ?_
  refine x_getr (ci := 6) (k := 0) (a := dg sw) dX6_parse_77 rfl (by decide) (by decide) (by omega) fl_X6_12 (Or.inl ⟨_, rfl⟩) (hR2.2.2.2.2.1.trans (congrArg some e1)) ?_
  refine u_callV dX6_parse_80 lk_X6_73 [] rfl (c_Gm_fillValues E l (g := dg sw) (hl.2.1.fr (by omega) swR_o) p2.1 p2.2.1 (kk := fun k => (P.ru.getD k (0, 0, [])).2.1) hkk) (g_recv.obj (ci := 0) hl.2.1.1 (by decide) (show dg sw < N by omega)) rfl ⟨⟨by decide, by decide⟩, by decide, by decide⟩ (lb rfl) (fun I3 h_80 => ?_)
  obtain ⟨v1, v2⟩ := h_80
  refine w_aload_n dX6_parse_83 rfl ?_
  refine x_getr (ci := 6) (k := 2) (a := 47) dX6_parse_84 rfl (by decide) (by decide) (by omega) fl_X6_26 (Or.inl ⟨_, rfl⟩) hR2.2.2.2.2.2.2.1 ?_
  refine z_callV dX6_parse_87 lk_X6_76 [] rfl (c_forget E l (show 47 < N by omega)) (g_recv.obj (ci := 3) rfl (by decide) (show 47 < N by omega)) rfl ⟨⟨by decide, by decide⟩, by decide, by decide⟩ (lb rfl) ?_
  refine w_aload_n dX6_parse_90 rfl ?_
  refine x_getr (ci := 6) (k := 3) (a := 51) dX6_parse_91 rfl (by decide) (by decide) (by omega) fl_X6_33 (Or.inl ⟨_, rfl⟩) hR2.2.2.2.2.2.2.2.1 ?_
  refine z_callV dX6_parse_94 lk_X6_79 [] rfl (c_h_clear E l (show 51 < N by omega)) (g_recv.obj (ci := 1) rfl (by decide) (show 51 < N by omega)) rfl ⟨⟨by decide, by decide⟩, by decide, by decide⟩ (lb rfl) ?_
  refine w_iconst (v := 0) dX6_parse_97 (by decide) ?_
  refine w_istore_n dX6_parse_98 (by decide) rfl ?_
  exact w_lv [3, 0, 1, 2] (loop I2 J2 I3 (fun o a b => by rw [f1 o a b]; funext j; exact up2_n _ _ (by simp [a])) f3 (by rw [f2, up2_s]) p2 v1 v2 2 0 _ rfl (fun _ _ => rfl) (fun j hj => absurd hj (Nat.not_lt_zero j)))
end PA
