/-! HeapGamesModel: readsShared, readsStatement -/
def rdStM (tx : Nat → Nat) (L a : Nat) (P : PS) : RdO :=
  if isW tx L a 0 then rdRuM tx L a P else if isW tx L a 1 then rdHe tx L a P else if isW tx L a 2 then rdShM tx L a P else if isW tx L a 3 then rdPa tx L a P else if isW tx L a 4 then rdMi tx L a P else .inl (tkS tx L a, 1)
/-- .. and on to the token behind the semicolon -/
def stO (tx : Nat → Nat) (L : Nat) (r : RdO) : RdO := match r with
  | .inl q => .inl q
  | .inr q => if tkK tx L q.2 ≠ 3 then .inl (tkS tx L q.2, 1) else .inr (q.1, tkE tx L q.2)
theorem am_eq {tx : Nat → Nat} {L most : Nat} : ∀ (f a : Nat) (acc : List Nat), (amR tx L most f a acc = amM tx L most f a acc) ∨ ∃ e acc', amR tx L most f a acc = .inl (tkS tx L e, 1) ∧ amM tx L most f a acc = .inr (acc', e) ∧ tkK tx L e = 2
  | 0, a, acc => Or.inl rfl
  | f + 1, a, acc => by
    rw [amR, amM]
    have hk : tkK tx L a ≠ 2 → isNu tx L a = false := fun q => decide_eq_false (fun z => q z.1)
    by_cases h1 : 0 < acc.length ∧ tkK tx L a ≠ 2
    · rw [if_pos h1, if_pos ⟨h1.1, hk h1.2⟩]; exact Or.inl rfl
    · rw [if_neg h1]
      by_cases h2 : isNu tx L a = false
      · by_cases h3 : 0 < acc.length
        · rw [if_pos h2, if_pos ⟨h3, h2⟩]
          have h9 : tkK tx L a = 2 := Classical.byContradiction (fun q => h1 ⟨h3, q⟩)
          exact Or.inr ⟨a, acc, rfl, rfl, h9⟩
        · rw [if_pos h2, if_neg (fun q => h3 q.1), if_pos h2]; exact Or.inl rfl
      · have h2' : ¬ (0 < acc.length ∧ isNu tx L a = false) := fun q => h2 q.2
        rw [if_neg h2, if_neg h2', if_neg h2]
        by_cases h4 : nmT tx L a < 1 ∨ most < nmT tx L a
        · rw [if_pos h4, if_pos h4]; exact Or.inl rfl
        · rw [if_neg h4, if_neg h4]
          by_cases h5 : nmT tx L a ∈ acc
          · rw [if_pos h5, if_pos h5]; exact Or.inl rfl
          · rw [if_neg h5, if_neg h5]
            by_cases h6 : acc.length = 8
            · rw [if_pos h6, if_pos h6]; exact Or.inl rfl
            · rw [if_neg h6, if_neg h6]; exact am_eq f _ _
theorem stO_ru {tx : Nat → Nat} {L a : Nat} {P : PS} : stO tx L (rdRuM tx L a P) = stO tx L (rdRu tx L a P) := by
  unfold rdRuM rdRu
  split
  · rfl
  · split
    · rfl
    · split
      · rfl
      · split
        · rfl
        · split
          · rcases am_eq (tx := tx) (L := L) (most := 60) 9 (tkE tx L (tkE tx L (tkE tx L a))) [] with h | ⟨e, acc', h1, h2, h3⟩
            · rw [h]; cases amM tx L 60 9 (tkE tx L (tkE tx L (tkE tx L a))) [] <;> rfl
            · rw [h1, h2]
              show (if tkK tx L e ≠ 3 then _ else _) = _
              rw [if_pos (by omega)]
              rfl
          · rfl
theorem stO_sh {tx : Nat → Nat} {L a : Nat} {P : PS} : stO tx L (rdShM tx L a P) = stO tx L (rdSh tx L a P) := by
  unfold rdShM rdSh
  split
  · rfl
  · rcases am_eq (tx := tx) (L := L) (most := 15) 9 (tkE tx L a) [] with h | ⟨e, acc', h1, h2, h3⟩
    · rw [h]; cases amM tx L 15 9 (tkE tx L a) [] <;> rfl
    · rw [h1, h2]
      show (if tkK tx L e ≠ 3 then _ else _) = _
      rw [if_pos (by omega)]
      rfl
theorem stO_st {tx : Nat → Nat} {L a : Nat} {P : PS} : stO tx L (rdStM tx L a P) = stO tx L (rdSt tx L a P) := by
  unfold rdStM rdSt
  split
  · exact stO_ru
  · split
    · rfl
    · split
      · exact stO_sh
      · rfl
theorem rdTx_st {tx : Nat → Nat} {L f a : Nat} {P : PS} : rdTx tx L (f + 1) a P = if tkK tx L a = 0 then .inr P else (match stO tx L (rdStM tx L a P) with | .inl q => .inl q | .inr q => rdTx tx L f q.2 q.1) := by
  rw [rdTx, stO_st]
  split
  · rfl
  · cases rdSt tx L a P with
    | inl q => rfl
    | inr q =>
      by_cases h : tkK tx L q.2 ≠ 3
      · have e : stO tx L (.inr q : RdO) = .inl (tkS tx L q.2, 1) := if_pos h
        rw [e]; exact if_pos h
      · have e : stO tx L (.inr q : RdO) = .inr (q.1, tkE tx L q.2) := if_neg h
        rw [e]; exact if_neg h
theorem rdRuM_ok {tx : Nat → Nat} {L a : Nat} {P : PS} {q : PS × Nat} (ha : a ≤ L) (hP : psOK P) (h : rdRuM tx L a P = .inr q) : psOK q.1 ∧ tkE tx L a ≤ q.2 ∧ q.2 ≤ L := by
  have hb := tk_b (tx := tx) ha
  have hb2 := tk_b (tx := tx) hb.2.2.2.1
  have hb3 := tk_b (tx := tx) hb2.2.2.2.1
  unfold rdRuM at h
  split at h
  · cases h
  · split at h
    · cases h
    · rename_i h6 hu
      have hu' : isNm tx L (tkE tx L a) = true := by cases e : isNm tx L (tkE tx L a); exact absurd e hu; rfl
      split at h
      · cases h
      · split at h
        · cases h
        · rename_i hk
          split at h
          · split at h
            · cases h
            · rename_i q' hq
              cases h
              have hok := amM_ok 9 _ [] q' (by decide) rfl hb3.2.2.2.1 (fun x hx => absurd hx List.not_mem_nil) hq
              exact ⟨hP.add (by omega) (cdT_gd hu') (by decide) hok.1.2 hok.2.1, by omega, hok.2.2.2⟩
          · cases h
            obtain ⟨kk, hkk, e⟩ := (kd_le tx L (tkE tx L (tkE tx L a))).resolve_left hk
            refine ⟨hP.add (by omega) (cdT_gd hu') ?_ (by decide) (fun x hx => absurd hx List.not_mem_nil), by show tkE tx L a ≤ tkE tx L (tkE tx L (tkE tx L a)); omega, hb3.2.2.2.1⟩
            rw [e, nI_toInt (by omega), Int.toNat_natCast]
            exact hkk
theorem rdStM_ok {tx : Nat → Nat} {L a : Nat} {P : PS} {q : PS × Nat} (ha : a ≤ L) (hP : psOK P) (h : rdStM tx L a P = .inr q) : psOK q.1 ∧ a < q.2 ∧ q.2 ≤ L := by
  have hb := tk_b (tx := tx) ha
  have hb2 := tk_b (tx := tx) hb.2.2.2.1
  have hw : ∀ i, isW tx L a i = true → a < tkE tx L a := fun i hi => by
    unfold isW at hi
    rw [Bool.and_eq_true] at hi
    have := (of_decide_eq_true hi.1).1
    have := hb.2.2.2.2 (by omega)
    omega
  unfold rdStM at h
  split at h
  · have := rdRuM_ok ha hP h; have := hw 0 (by assumption); exact ⟨(rdRuM_ok ha hP h).1, by omega, by omega⟩
  · split at h
    · have := rdHe_ok ha hP h; have := hw 1 (by assumption); exact ⟨(rdHe_ok ha hP h).1, by omega, by omega⟩
    · split at h
      · have := hw 2 (by assumption)
        unfold rdShM at h
        split at h
        · cases h
        · split at h
          · cases h
          · rename_i q' hq
            cases h
            have hok := amM_ok 9 _ [] q' (by decide) rfl hb.2.2.2.1 (fun x hx => absurd hx List.not_mem_nil) hq
            exact ⟨⟨hP.1, hP.2.1, hP.2.2.1, ⟨hok.1.2, hok.2.1⟩, hP.2.2.2.2⟩, by show a < q'.2; omega, hok.2.2.2⟩
      · split at h
        · have := hw 3 (by assumption)
          unfold rdPa at h
          split at h
          · cases h
          · split at h
            · cases h
            · split at h
              · cases h
              · rename_i hz
                cases h
                exact ⟨⟨hP.1, hP.2.1, ⟨hP.2.2.1.1, hP.2.2.1.2.1, (by show nmT tx L (tkE tx L a) ≤ 3; omega), hP.2.2.1.2.2.2⟩, hP.2.2.2.1, fun q => by cases q⟩, by show a < tkE tx L (tkE tx L a); omega, hb2.2.2.2.1⟩
        · split at h
          · have := hw 4 (by assumption)
            unfold rdMi at h
            split at h
            · cases h
            · cases h
              exact ⟨⟨hP.1, hP.2.1, hP.2.2.1, hP.2.2.2.1, hP.2.2.2.2⟩, by show a < tkE tx L a; omega, hb.2.2.2.1⟩
          · cases h
section MD2
variable (E : GE) (l : Launch)
variable {I : Nat → Nat → Int32} {J : Nat → Nat → Int64} {R : Nat → Nat → Option Nat} {D : Nat → Nat → UInt64} {N : Nat} {ex : Bool} {tx : Nat → Nat} {L a : Nat} {P : PS}
set_option maxRecDepth 100000 in
theorem m_readsShared (hR : lkM R N) (hg : I 79 28 = nI 0) (hr : mtx I tx L) (hm : mtC I J tx L a) (ha : a ≤ L) (hp : pmC I J P) : g_Ct E l mX7_readsShared 4 84 0 0 [.ref 79] (I, J, R, D, N, ex) (g_rk (fun I' J' => rsQ I J tx L I' J' (rdShM tx L a P)) R D N ex) := by
  refine g_Ct.of (by decide +kernel) (lb rfl) ?_
  have hN := hR.1
  have hL := hr.2.1
  have hb := tk_b (tx := tx) ha
  generalize hq : rdShM tx L a P = Q
  unfold rdShM at hq
  have b40 : ∀ (I' : Nat → Nat → Int32) (J' : Nat → Nat → Int64) (e : Nat), I' 79 28 = nI e → e ≠ 0 ∧ e ≤ 5 → rsQ I J tx L I' J' Q → g_Wp E l mX7_readsShared { frames := 4, cells := 0, slots := 0, locals := 84 } (g_Fin E (g_rk (fun I' J' => rsQ I J tx L I' J' Q) R D N ex) 0 0) 0 0 40 [(0, .ref 79)] [] (I', J', R, D, N, ex) := by
    intro I' J' e h1 h2 h3
    refine w_aload_n dX7_readsShared_40 rfl ?_
    refine y_callV dX7_readsShared_41 lk_X7_161 [] rfl (m_isGood E l hR h1 h2.2) (g_recv.obj (ci := 7) rfl (by decide) (show 79 < N by omega)) rfl ⟨⟨by decide, by decide⟩, by decide, by decide⟩ (lb rfl) ?_
    rw [decide_eq_false h2.1]
    refine w_if_ne (tgt := 48) dX7_readsShared_44 (by decide) (fun c_44 => absurd (rfl) c_44) (fun c_44 => ?_)
    refine w_vret dX7_readsShared_47 rfl ⟨_, _, rfl, h3, rfl⟩ (by decide) (by decide)
  by_cases hs : P.sh = []
  · rw [if_neg (fun q => q hs)] at hq
    have h30 : I 79 30 = 0 := by rw [hp.2.2.2.2.1, decide_eq_false (fun q => q hs)]; rfl
    have h16 : I 79 16 = nI (shM []) := by rw [hp.2.2.1, hs]
    have s50 : ∀ (al : List Nat) (e : Nat), 1 ≤ al.length → al.length ≤ 8 → (∀ x ∈ al, 1 ≤ x ∧ x ≤ 15) → Q = .inr ((P.ru, P.hs, P.ps, P.hp, P.mi, al), e) → ∀ (f k : Nat) (I' : Nat → Nat → Int32) (J' : Nat → Nat → Int64), k + f = al.length → I' 79 28 = nI 0 → mtC I' J' tx L e → tdC I' al → I' 79 16 = nI (shM (al.take k)) → I' 79 30 = 1 → (∃ I5, frU I I5 J J' ∧ (∀ o, o ≠ 79 → I' o = I5 o) ∧ ∀ j, j ≠ 16 → j ≠ 30 → I' 79 j = I5 79 j) → g_Wp E l mX7_readsShared { frames := 4, cells := 0, slots := 0, locals := 84 } (g_Fin E (g_rk (fun I' J' => rsQ I J tx L I' J' Q) R D N ex) 0 0) 0 0 50 [(1, .int (nI k)), (0, .ref 79)] [] (I', J', R, D, N, ex) := by
      intro al e h1 h8 hx hQ f
      induction f with
      | zero =>
        intro k I' J' hk g1 g2 g3 g4 g5 g6
        obtain rfl : k = al.length := by omega
        rw [List.take_length] at g4
        obtain ⟨I5, q1, q2, q3⟩ := g6
        have p5 := hp.u q1
        have fin : rsQ I J tx L I' J' Q := by
          rw [hQ]
          refine ⟨q1.w.trans ⟨fun o a _ _ _ => q2 o a, fun k a b _ => q3 k (by omega) (by omega), fun _ _ _ => rfl⟩, g1, g2, by rw [q3 15 (by decide) (by decide)]; exact p5.1, fun k hk => ⟨(p5.2.1 k hk).1.fr (fun o a b => q2 o (by omega)), (p5.2.1 k hk).2⟩, g4, p5.2.2.2.1.fr (q2 80 (by decide)), ?_, by rw [q3 31 (by decide) (by decide)]; exact p5.2.2.2.2.2.1, by rw [q3 32 (by decide) (by decide)]; exact p5.2.2.2.2.2.2⟩
          rw [g5, decide_eq_true (show (P.ru, P.hs, P.ps, P.hp, P.mi, al).2.2.2.2.2 ≠ [] from fun q => by have : al = [] := q; rw [this] at h1; exact absurd h1 (by decide))]
          rfl
        refine w_iload_n dX7_readsShared_50 rfl ?_
        refine w_aload_n dX7_readsShared_51 rfl ?_
        refine x_geti (ci := 7) (k := 35) dX7_readsShared_52 rfl (by decide) (by decide) (by omega) fl_X7_180 rfl ?_
        rw [g3.1]
        refine w_icmp_ge (tgt := 81) dX7_readsShared_55 (by decide) (fun c_55 => ?_) (fun c_55 => absurd ((nI_le (by omega) (by omega))) c_55)
        refine w_vret dX7_readsShared_81 rfl ⟨_, _, rfl, fin, rfl⟩ (by decide) (by decide)
      | succ f ih =>
        intro k I' J' hk g1 g2 g3 g4 g5 g6
        have hkl : k < al.length := by omega
        have hx9 := hx _ (List.getElem_mem hkl)
        have e4 : nI (shM (al.take k)) ||| (1 : Int32) <<< (nI al[k] &&& 31) = nI (shM (al.take (k + 1))) := by
          rw [show (1 : Int32) = nI 1 from rfl, nx_shl (by omega), Nat.one_mul, nx_or, List.take_succ_eq_append_getElem hkl, shM_app]
        refine w_iload_n dX7_readsShared_50 rfl ?_
        refine w_aload_n dX7_readsShared_51 rfl ?_
        refine x_geti (ci := 7) (k := 35) dX7_readsShared_52 rfl (by decide) (by decide) (by omega) fl_X7_180 rfl ?_
        rw [g3.1]
        refine w_icmp_ge (tgt := 81) dX7_readsShared_55 (by decide) (fun c_55 => absurd c_55 ((nI_ge (by omega) (by omega)))) (fun c_55 => ?_)
        refine w_aload_n dX7_readsShared_58 rfl ?_
        refine w_dup dX7_readsShared_59 rfl ?_
        refine x_geti (ci := 7) (k := 16) dX7_readsShared_60 rfl (by decide) (by decide) (by omega) fl_X7_225 rfl ?_
        rw [g4]
        refine w_iconst (v := 1) dX7_readsShared_63 (by decide) ?_
        refine w_aload_n dX7_readsShared_64 rfl ?_
        refine x_getr (ci := 7) (k := 34) (a := 97) dX7_readsShared_65 rfl (by decide) (by decide) (by omega) fl_X7_63 (Or.inr ⟨_, rfl⟩) hR.2.2.2.2.2.2.2.2.2.2.2.2.2.2.2.2.2.2.1 ?_
        refine w_iload_n dX7_readsShared_68 rfl ?_
        refine x_iald (j := k) dX7_readsShared_69 rfl (by omega) rfl (show k < 8 by omega) ?_
        rw [g3.2 k hkl]
        refine w_ishl dX7_readsShared_70 ?_
        refine w_ior dX7_readsShared_71 ?_
        rw [e4]
        refine x_puti (ci := 7) (k := 16) dX7_readsShared_72 rfl (by decide) (by decide) (by omega) fl_X7_225 rfl rfl ?_
        refine w_iinc (v := nI (k + 1)) dX7_readsShared_75 rfl (nI_inc _) (by decide) rfl ?_
        refine w_goto (tgt := 50) dX7_readsShared_78 (by decide) ?_
        refine w_lv [1, 0] (ih (k + 1) _ J' (by omega) (by rw [up2_n _ _ (by simp)]; exact g1) ⟨by rw [up2_n _ _ (by simp)]; exact g2.1, by rw [up2_n _ _ (by simp)]; exact g2.2.1, by rw [up2_n _ _ (by simp)]; exact g2.2.2.1, g2.2.2.2.1, fun z => by rw [up2_n _ _ (by simp)]; exact g2.2.2.2.2 z⟩ ⟨by rw [up2_n _ _ (by simp)]; exact g3.1, fun j hj => by rw [up2_n _ _ (by simp)]; exact g3.2 j hj⟩ (up2_s ..) (by rw [up2_n _ _ (by simp)]; exact g5) ?_)
        obtain ⟨I5, q1, q2, q3⟩ := g6
        exact ⟨I5, q1, fun o ho => by rw [← q2 o ho]; funext j; exact up2_n _ _ (by simp [ho]), fun j a b => by rw [up2_n _ _ (by simp [a])]; exact q3 j a b⟩
    have s40 : ∀ (I' : Nat → Nat → Int32) (J' : Nat → Nat → Int64), I' 79 28 = nI 0 → g_Wp E l mX7_readsShared { frames := 4, cells := 0, slots := 0, locals := 84 } (g_Fin E (g_rk (fun I' J' => rsQ I J tx L I' J' Q) R D N ex) 0 0) 0 0 50 [(1, .int (nI 0)), (0, .ref 79)] [] (I', J', R, D, N, ex) → g_Wp E l mX7_readsShared { frames := 4, cells := 0, slots := 0, locals := 84 } (g_Fin E (g_rk (fun I' J' => rsQ I J tx L I' J' Q) R D N ex) 0 0) 0 0 40 [(0, .ref 79)] [] (I', J', R, D, N, ex) := by
      intro I' J' h1 t9
      refine w_aload_n dX7_readsShared_40 rfl ?_
      refine y_callV dX7_readsShared_41 lk_X7_161 [] rfl (m_isGood E l hR h1 (by decide)) (g_recv.obj (ci := 7) rfl (by decide) (show 79 < N by omega)) rfl ⟨⟨by decide, by decide⟩, by decide, by decide⟩ (lb rfl) ?_
      refine w_if_ne (tgt := 48) dX7_readsShared_44 (by decide) (fun c_44 => ?_) (fun c_44 => absurd c_44 ((by decide)))
      refine w_iconst (v := 0) dX7_readsShared_48 (by decide) ?_
      refine w_istore_n dX7_readsShared_49 (by decide) rfl ?_
      exact w_lv [1, 0] t9
    have h28 : up2 I 79 30 1 79 28 = nI 0 := by rw [up2_n _ _ (by simp)]; exact hg
    have hr1 : mtx (up2 I 79 30 1) tx L := ⟨by rw [up2_n _ _ (by simp)]; exact hr.1, hL, fun i hi => by rw [up2_n _ _ (by simp)]; exact hr.2.2 i hi⟩
    have h25 : up2 I 79 30 1 79 25 = nI (tkE tx L a) := by rw [up2_n _ _ (by simp)]; exact hm.2.1
    have fb : frW I (up2 I 79 30 1) J J := (frW.refl I J).up (by decide) 1
    refine w_aload_n dX7_readsShared_0 rfl ?_
    refine w_aload_n dX7_readsShared_1 rfl ?_
    refine x_getz (ci := 7) (k := 30) dX7_readsShared_2 rfl (by decide) (by decide) (by omega) fl_X7_221 rfl ?_
    rw [h30]
    refine w_if_ne (tgt := 12) dX7_readsShared_5 (by decide) (fun c_5 => absurd (rfl) c_5) (fun c_5 => ?_)
    refine w_iconst (v := 1) dX7_readsShared_8 (by decide) ?_
    refine w_goto (tgt := 13) dX7_readsShared_9 (by decide) ?_
    refine w_iconst (v := 2) dX7_readsShared_13 (by decide) ?_
    refine y_callV dX7_readsShared_14 lk_X7_183 [.int 1, .int 2] rfl (m_must_t E l hR hg 2) (g_recv.obj (ci := 7) rfl (by decide) (show 79 < N by omega)) rfl ⟨⟨by decide, by decide⟩, by decide, by decide⟩ (lb rfl) ?_
    refine w_pop dX7_readsShared_17 rfl ?_
    refine w_aload_n dX7_readsShared_18 rfl ?_
    refine w_iconst (v := 1) dX7_readsShared_19 (by decide) ?_
    refine x_putz (ci := 7) (k := 30) dX7_readsShared_20 rfl (by decide) (by decide) (by omega) fl_X7_221 rfl rfl (by decide) ?_
    refine w_aload_n dX7_readsShared_23 rfl ?_
    refine k_callV dX7_readsShared_24 lk_X7_204 [] rfl (m_goOn E l hR h28 hr1 hb.2.2.2.1 h25) (g_recv.obj (ci := 7) rfl (by decide) (show 79 < N by omega)) rfl ⟨⟨by decide, by decide⟩, by decide, by decide⟩ (lb rfl) (fun I2 J2 h_24 => ?_)
    obtain ⟨k1, k2⟩ := h_24
    have g2 : I2 79 28 = nI 0 := (by rw [k1.2.1 28 (by decide)]; exact h28)
    refine w_aload_n dX7_readsShared_27 rfl ?_
    refine y_callV dX7_readsShared_28 lk_X7_161 [] rfl (m_isGood E l hR g2 (by decide)) (g_recv.obj (ci := 7) rfl (by decide) (show 79 < N by omega)) rfl ⟨⟨by decide, by decide⟩, by decide, by decide⟩ (lb rfl) ?_
    refine w_if_eq (tgt := 40) dX7_readsShared_31 (by decide) (fun c_31 => absurd c_31 ((by decide))) (fun c_31 => ?_)
    refine w_aload_n dX7_readsShared_34 rfl ?_
    refine w_bipush (v := 15) dX7_readsShared_35 (by decide) ?_
    refine k_callV dX7_readsShared_37 lk_X7_214 [.int (nI 15)] rfl (m_readsAmounts E l hR g2 (hr1.n k1) k2 hb.2.2.2.1 (most := 15) (by decide)) (g_recv.obj (ci := 7) rfl (by decide) (show 79 < N by omega)) rfl ⟨⟨by decide, by decide⟩, by decide, by decide⟩ (lb rfl) (fun I3 J3 h_37 => ?_)
    obtain ⟨a1, a2⟩ := h_37
    generalize ham : amM tx L 15 9 (tkE tx L a) [] = M at hq a2
    rcases M with q | q
    · exact w_lv [0] (b40 I3 J3 q.2 a2.1 ⟨a2.2.2.1, a2.2.2.2⟩ (by rw [← hq]; exact ⟨(fb.trans k1.u.w).trans a1.w, a2⟩))
    · have hok := amM_ok 9 _ [] q (by decide) rfl hb.2.2.2.1 (fun x hx => absurd hx List.not_mem_nil) ham
      have k3 := k1.u.trans a1
      have t9 := s50 q.1 q.2 hok.1.1 hok.1.2 hok.2.1 hq.symm q.1.length 0 I3 J3 (by omega) a2.1 a2.2.1 a2.2.2 (by rw [k3.2.1 16 (by decide) (by decide), up2_n _ _ (by simp)]; exact h16) (by rw [k3.2.1 30 (by decide) (by decide), up2_s]) ⟨fun o j => if o = 79 ∧ j = 30 then I 79 30 else I3 o j, ⟨fun o x y => by funext j; rw [show (fun o j => if o = 79 ∧ j = 30 then I 79 30 else I3 o j) o j = I3 o j from if_neg (fun q => x q.1), k3.1 o x y]; exact up2_n _ _ (by simp [x]), fun k x y => by by_cases z : k = 30; subst z; exact if_pos ⟨rfl, rfl⟩; exact (if_neg (fun q => z q.2)).trans ((k3.2.1 k x y).trans (up2_n _ _ (by simp [z]))), k3.2.2⟩, fun o ho => by funext j; exact (if_neg (fun q => ho q.1)).symm, fun j x y => (if_neg (fun q => y q.2)).symm⟩
      exact w_lv [0] (s40 I3 J3 a2.1 t9)
  · rw [if_pos hs] at hq
    have h30 : I 79 30 = 1 := by rw [hp.2.2.2.2.1, decide_eq_true hs]; rfl
    have h28 : up2 (up2 (up2 I 79 28 (nI 2)) 79 29 (I 79 24)) 79 30 1 79 28 = nI 2 := by rw [up2_n _ _ (by simp), up2_n _ _ (by simp), up2_s]
    refine w_aload_n dX7_readsShared_0 rfl ?_
    refine w_aload_n dX7_readsShared_1 rfl ?_
    refine x_getz (ci := 7) (k := 30) dX7_readsShared_2 rfl (by decide) (by decide) (by omega) fl_X7_221 rfl ?_
    rw [h30]
    refine w_if_ne (tgt := 12) dX7_readsShared_5 (by decide) (fun c_5 => ?_) (fun c_5 => absurd c_5 ((by decide)))
    refine w_iconst (v := 0) dX7_readsShared_12 (by decide) ?_
    refine w_iconst (v := 2) dX7_readsShared_13 (by decide) ?_
    refine y_callV dX7_readsShared_14 lk_X7_183 [.int 0, .int (nI 2)] rfl (m_must_f E l hR hg (k := 2) (by decide)) (g_recv.obj (ci := 7) rfl (by decide) (show 79 < N by omega)) rfl ⟨⟨by decide, by decide⟩, by decide, by decide⟩ (lb rfl) ?_
    refine w_pop dX7_readsShared_17 rfl ?_
    refine w_aload_n dX7_readsShared_18 rfl ?_
    refine w_iconst (v := 1) dX7_readsShared_19 (by decide) ?_
    refine x_putz (ci := 7) (k := 30) dX7_readsShared_20 rfl (by decide) (by decide) (by omega) fl_X7_221 rfl rfl (by decide) ?_
    refine w_aload_n dX7_readsShared_23 rfl ?_
    refine z_callV dX7_readsShared_24 lk_X7_204 [] rfl (m_goOn_b E l hR h28 (by decide)) (g_recv.obj (ci := 7) rfl (by decide) (show 79 < N by omega)) rfl ⟨⟨by decide, by decide⟩, by decide, by decide⟩ (lb rfl) ?_
    refine w_aload_n dX7_readsShared_27 rfl ?_
    refine y_callV dX7_readsShared_28 lk_X7_161 [] rfl (m_isGood E l hR h28 (by decide)) (g_recv.obj (ci := 7) rfl (by decide) (show 79 < N by omega)) rfl ⟨⟨by decide, by decide⟩, by decide, by decide⟩ (lb rfl) ?_
    refine w_if_eq (tgt := 40) dX7_readsShared_31 (by decide) (fun c_31 => ?_) (fun c_31 => absurd (rfl) c_31)
    exact w_lv [0] (b40 _ J 2 h28 (by decide) (by rw [← hq]; exact ⟨((frU.refl I J).er _ _).w.up (by decide) _, h28, by rw [up2_n _ _ (by simp), up2_s]; exact hm.1, (by dsimp only; decide), (by dsimp only; decide)⟩))
end MD2
