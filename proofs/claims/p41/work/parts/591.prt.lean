/-! what a text that is read keeps; readStatement, readText -/
def gdC : Nat → Nat → Prop
  | 0, c => c = 0
  | f + 1, c => c = 0 ∨ (97 ≤ c % 256 ∧ c % 256 ≤ 122 ∧ gdC f (c / 256))
theorem naF_gd {tx : Nat → Nat} {s : Nat} : ∀ f n, n ≤ f → (∀ j, j < n → 97 ≤ tx (s + j) ∧ tx (s + j) ≤ 122) → gdC f (naF tx s n)
  | 0, n, h, _ => by obtain rfl : n = 0 := by omega
                     rfl
  | f + 1, 0, _, _ => Or.inl rfl
  | f + 1, n + 1, h, h2 => by
    have t := h2 n (by omega)
    have ih := naF_gd f n (by omega) (fun j hj => h2 j (by omega))
    rw [naF]
    generalize naF tx s n = x at *
    refine Or.inr ⟨by omega, by omega, ?_⟩
    rw [show (x * 256 + tx (s + n)) / 256 = x by omega]
    exact ih
theorem cdT_gd {tx : Nat → Nat} {L a : Nat} (hu : isNm tx L a = true) : gdC 8 (cdT tx L a) := by
  have hu2 := of_decide_eq_true hu
  exact naF_gd 8 _ hu2.2 (fun j hj => (kb_1 ((tk_k (j := tkS tx L a + j) (Or.inl hu2.1) (Nat.le_add_right _ _) (by unfold tkN at hj; omega)).trans hu2.1)).2)
def psOK (P : PS) : Prop := (∀ r ∈ P.ru, gdC 8 r.1 ∧ r.2.1 ≤ 4 ∧ r.2.2.length ≤ 8 ∧ ∀ a ∈ r.2.2, 1 ≤ a ∧ a ≤ 60) ∧ P.ru.length ≤ 6 ∧ stOK P.ru.length P.st ∧ (P.sh.length ≤ 8 ∧ ∀ a ∈ P.sh, 1 ≤ a ∧ a ≤ 15) ∧ (P.hp = false → P.ps = 0)
theorem stOK.up {n m : Nat} {s : St} (h : stOK n s) (hnm : n ≤ m) : stOK m s := ⟨h.1, fun x hx => ⟨Nat.lt_of_lt_of_le (h.2.1 x hx).1 hnm, (h.2.1 x hx).2⟩, h.2.2⟩
theorem psOK.add {P : PS} (h : psOK P) {c kd : Nat} {al : List Nat} (h6 : P.ru.length < 6) (hc : gdC 8 c) (hk : kd ≤ 4) (h8 : al.length ≤ 8) (hal : ∀ a ∈ al, 1 ≤ a ∧ a ≤ 60) : psOK (P.ru ++ [(c, kd, al)], P.2) := by
  have hl : (P.ru ++ [(c, kd, al)]).length = P.ru.length + 1 := by rw [List.length_append]; rfl
  refine ⟨fun r hr => ?_, by show (P.ru ++ [(c, kd, al)]).length ≤ 6; omega, h.2.2.1.up (by show P.ru.length ≤ (P.ru ++ [(c, kd, al)]).length; omega), h.2.2.2.1, h.2.2.2.2⟩
  rcases List.mem_append.mp hr with z | z
  · exact h.1 r z
  · rw [List.mem_singleton] at z; subst z; exact ⟨hc, hk, h8, hal⟩
theorem rdRu_ok {tx : Nat → Nat} {L a : Nat} {P : PS} {q : PS × Nat} (ha : a ≤ L) (hP : psOK P) (h : rdRu tx L a P = .inr q) : psOK q.1 ∧ tkE tx L a ≤ q.2 ∧ q.2 ≤ L := by
  have hb := tk_b (tx := tx) ha
  have hb2 := tk_b (tx := tx) hb.2.2.2.1
  have hb3 := tk_b (tx := tx) hb2.2.2.2.1
  unfold rdRu at h
  split at h
  · cases h
  · split at h
    · cases h
    · rename_i h6 hu
      have hu' : isNm tx L (tkE tx L a) = true := by cases e : isNm tx L (tkE tx L a); exact absurd e hu; rfl
      split at h
      · cases h
      · split at h
        · cases h
        · rename_i hk
          split at h
          · split at h
            · cases h
            · rename_i q' hq
              cases h
              have hok := amR_ok 9 _ [] q' (by decide) rfl hb3.2.2.2.1 (fun x hx => absurd hx List.not_mem_nil) hq
              exact ⟨hP.add (by omega) (cdT_gd hu') (by decide) hok.1.2 hok.2.1, by omega, hok.2.2.2⟩
          · cases h
            obtain ⟨kk, hkk, e⟩ := (kd_le tx L (tkE tx L (tkE tx L a))).resolve_left hk
            refine ⟨hP.add (by omega) (cdT_gd hu') ?_ (by decide) (fun x hx => absurd hx List.not_mem_nil), by show tkE tx L a ≤ tkE tx L (tkE tx L (tkE tx L a)); omega, hb3.2.2.2.1⟩
            rw [e, nI_toInt (by omega), Int.toNat_natCast]
            exact hkk
theorem rdHe_ok {tx : Nat → Nat} {L a : Nat} {P : PS} {q : PS × Nat} (ha : a ≤ L) (hP : psOK P) (h : rdHe tx L a P = .inr q) : psOK q.1 ∧ tkE tx L a ≤ q.2 ∧ q.2 ≤ L := by
  have hb := tk_b (tx := tx) ha
  have hb2 := tk_b (tx := tx) hb.2.2.2.1
  have hb3 := tk_b (tx := tx) hb2.2.2.2.1
  unfold rdHe at h
  split at h
  · cases h
  · rename_i h4
    split at h
    · cases h
    · split at h
      · cases h
      · rename_i r hr
        split at h
        · cases h
        · split at h
          · cases h
          · rename_i hz
            cases h
            exact ⟨⟨hP.1, hP.2.1, addL_3 hP.2.2.1 (fnR_lt hr) (by show P.hs.length < 4; omega) (by omega), hP.2.2.2⟩, by show tkE tx L a ≤ tkE tx L (tkE tx L (tkE tx L a)); omega, hb3.2.2.2.1⟩
theorem rdSt_ok {tx : Nat → Nat} {L a : Nat} {P : PS} {q : PS × Nat} (ha : a ≤ L) (hP : psOK P) (h : rdSt tx L a P = .inr q) : psOK q.1 ∧ a < q.2 ∧ q.2 ≤ L := by
  have hb := tk_b (tx := tx) ha
  have hb2 := tk_b (tx := tx) hb.2.2.2.1
  have hw : ∀ i, isW tx L a i = true → a < tkE tx L a := fun i hi => by
    unfold isW at hi
    rw [Bool.and_eq_true] at hi
    have := (of_decide_eq_true hi.1).1
    have := hb.2.2.2.2 (by omega)
    omega
  unfold rdSt at h
  split at h
  · have := rdRu_ok ha hP h; have := hw 0 (by assumption); exact ⟨(rdRu_ok ha hP h).1, by omega, by omega⟩
  · split at h
    · have := rdHe_ok ha hP h; have := hw 1 (by assumption); exact ⟨(rdHe_ok ha hP h).1, by omega, by omega⟩
    · split at h
      · have := hw 2 (by assumption)
        unfold rdSh at h
        split at h
        · cases h
        · split at h
          · cases h
          · rename_i q' hq
            cases h
            have hok := amR_ok 9 _ [] q' (by decide) rfl hb.2.2.2.1 (fun x hx => absurd hx List.not_mem_nil) hq
            exact ⟨⟨hP.1, hP.2.1, hP.2.2.1, ⟨hok.1.2, hok.2.1⟩, hP.2.2.2.2⟩, by show a < q'.2; omega, hok.2.2.2⟩
      · split at h
        · have := hw 3 (by assumption)
          unfold rdPa at h
          split at h
          · cases h
          · split at h
            · cases h
            · split at h
              · cases h
              · rename_i hz
                cases h
                exact ⟨⟨hP.1, hP.2.1, ⟨hP.2.2.1.1, hP.2.2.1.2.1, (by show nmT tx L (tkE tx L a) ≤ 3; omega), hP.2.2.1.2.2.2⟩, hP.2.2.2.1, fun q => by cases q⟩, by show a < tkE tx L (tkE tx L a); omega, hb2.2.2.2.1⟩
        · split at h
          · have := hw 4 (by assumption)
            unfold rdMi at h
            split at h
            · cases h
            · cases h
              exact ⟨⟨hP.1, hP.2.1, hP.2.2.1, hP.2.2.2.1, hP.2.2.2.2⟩, by show a < tkE tx L a; omega, hb.2.2.2.1⟩
          · cases h
def PS.nil : PS := ([], [], 0, false, false, [])
theorem psOK_nil : psOK PS.nil := ⟨fun r hr => absurd hr List.not_mem_nil, by decide, ⟨by decide, fun x hx => absurd hx List.not_mem_nil, by decide, by decide, fun x hx => absurd hx List.not_mem_nil⟩, ⟨by decide, fun x hx => absurd hx List.not_mem_nil⟩, fun _ => rfl⟩
theorem rdTx_ok {tx : Nat → Nat} {L : Nat} : ∀ (f a : Nat) (P Q : PS), a ≤ L → psOK P → rdTx tx L f a P = .inr Q → psOK Q
  | 0, a, P, Q, _, hP, h => by rw [rdTx] at h; cases h; exact hP
  | f + 1, a, P, Q, ha, hP, h => by
    rw [rdTx] at h
    split at h
    · cases h; exact hP
    · split at h
      · cases h
      · rename_i q hq
        have hok := rdSt_ok ha hP hq
        split at h
        · cases h
        · exact rdTx_ok f _ _ _ (tk_b hok.2.2).2.2.2.1 hok.1 h
def rdF (tx : Nat → Nat) (L : Nat) : (Nat × Nat) ⊕ PS := rdTx tx L (L + 1) 0 PS.nil
def frL (g : Nat) (I I' : Nat → Nat → Int32) (J J' : Nat → Nat → Int64) : Prop := (∀ o, o ≠ 23 → (o < g ∨ g + 22 ≤ o) → I' o = I o) ∧ I' 23 1 = I 23 1 ∧ ∀ o, o ≠ 23 → (o < g ∨ g + 22 ≤ o) → J' o = J o
theorem frL.q {g : Nat} {I I' I'' : Nat → Nat → Int32} {J J' J'' : Nat → Nat → Int64} (h : frL g I I' J J') (f : frQ g I' I'' J' J'') : frL g I I'' J J'' := ⟨fun o a b => (f.1 o a b).trans (h.1 o a b), (f.2.1 1 (by decide) (by decide) (by decide) (by decide) (by decide)).trans h.2.1, fun o a b => (f.2.2 o a b).trans (h.2.2 o a b)⟩
def rdT (g : Nat) (I : Nat → Nat → Int32) (J : Nat → Nat → Int64) (x : Int32) (I' : Nat → Nat → Int32) (J' : Nat → Nat → Int64) (r : (Nat × Nat) ⊕ PS) : Prop := frL g I I' J J' ∧ match r with
  | .inl q => x = 0 ∧ I' 23 9 = flS q.1 q.2 ∧ drC I' J' g
  | .inr P => x = 1 ∧ psC I' J' g P
theorem nz_01 {x : Int32} (h : x = 0 ∨ x = 1) : narrow .boolean (.int x) = .int x := by rcases h with h | h <;> subst h <;> rfl
theorem rdP.b {tx : Nat → Nat} {L g : Nat} {I : Nat → Nat → Int32} {J : Nat → Nat → Int64} {x : Int32} {I' : Nat → Nat → Int32} {J' : Nat → Nat → Int64} {r : RdO} (h : rdP tx L g I J x I' J' r) : x = 0 ∨ x = 1 := by
  rcases r with q | q
  · exact Or.inl h.2.1
  · exact Or.inr h.2.1
section RT
variable (E : GE) (l : Launch)
variable {I : Nat → Nat → Int32} {J : Nat → Nat → Int64} {R : Nat → Nat → Option Nat} {D : Nat → Nat → UInt64} {N : Nat} {ex : Bool} {tx : Nat → Nat} {L a g : Nat} {P : PS}
set_option maxRecDepth 100000 in
theorem c_readStatement (hR : R 23 0 = some 24) (h6 : R 23 6 = some g) (hg : isG R N g) (hgb : g = 1 ∨ g = 25) (hN : 24 < N) (hr : rdC I tx L) (ht : tkC I tx L a) (ha : a ≤ L) (hp : psC I J g P) (hps : P.hp = false → P.ps = 0) : g_Ct E l mX5_readStatement 7 150 0 0 [.ref 23] (I, J, R, D, N, ex) (g_rj (fun x I' J' => rdP tx L g I J x I' J' (rdSt tx L a P)) R D N ex) := by
  refine g_Ct.of (by decide +kernel) (lb rfl) ?_
  unfold rdSt
  refine w_aload_n dX5_readStatement_0 rfl ?_
  refine w_ldcS (i := 0) (tx := "rule") dX5_readStatement_1 (by decide +kernel) (by decide) ?_
  refine y_callV dX5_readStatement_3 lk_X5_61 [.ref (1001 + 0)] rfl (c_isWord E l hR hN hr ht ha (show 0 < 21 by decide)) (g_recv.obj (ci := 5) rfl (by decide) (show 23 < N by omega)) rfl ⟨⟨by decide, by decide⟩, by decide, by decide⟩ (lb rfl) ?_
  refine w_if_eq (tgt := 14) dX5_readStatement_6 (by decide) (fun c_6 => ?_) (fun c_6 => ?_)
  · refine w_aload_n dX5_readStatement_14 rfl ?_
    refine w_ldcS (i := 1) (tx := "heap") dX5_readStatement_15 (by decide +kernel) (by decide) ?_
    refine y_callV dX5_readStatement_17 lk_X5_61 [.ref (1001 + 1)] rfl (c_isWord E l hR hN hr ht ha (show 1 < 21 by decide)) (g_recv.obj (ci := 5) rfl (by decide) (show 23 < N by omega)) rfl ⟨⟨by decide, by decide⟩, by decide, by decide⟩ (lb rfl) ?_
    refine w_if_eq (tgt := 28) dX5_readStatement_20 (by decide) (fun c_20 => ?_) (fun c_20 => ?_)
    · refine w_aload_n dX5_readStatement_28 rfl ?_
      refine w_ldcS (i := 2) (tx := "shared") dX5_readStatement_29 (by decide +kernel) (by decide) ?_
      refine y_callV dX5_readStatement_31 lk_X5_61 [.ref (1001 + 2)] rfl (c_isWord E l hR hN hr ht ha (show 2 < 21 by decide)) (g_recv.obj (ci := 5) rfl (by decide) (show 23 < N by omega)) rfl ⟨⟨by decide, by decide⟩, by decide, by decide⟩ (lb rfl) ?_
      refine w_if_eq (tgt := 42) dX5_readStatement_34 (by decide) (fun c_34 => ?_) (fun c_34 => ?_)
      · refine w_aload_n dX5_readStatement_42 rfl ?_
        refine w_ldcS (i := 3) (tx := "passes") dX5_readStatement_43 (by decide +kernel) (by decide) ?_
        refine y_callV dX5_readStatement_45 lk_X5_61 [.ref (1001 + 3)] rfl (c_isWord E l hR hN hr ht ha (show 3 < 21 by decide)) (g_recv.obj (ci := 5) rfl (by decide) (show 23 < N by omega)) rfl ⟨⟨by decide, by decide⟩, by decide, by decide⟩ (lb rfl) ?_
        refine w_if_eq (tgt := 56) dX5_readStatement_48 (by decide) (fun c_48 => ?_) (fun c_48 => ?_)
        · refine w_aload_n dX5_readStatement_56 rfl ?_
          refine w_ldcS (i := 4) (tx := "misere") dX5_readStatement_57 (by decide +kernel) (by decide) ?_
          refine y_callV dX5_readStatement_59 lk_X5_61 [.ref (1001 + 4)] rfl (c_isWord E l hR hN hr ht ha (show 4 < 21 by decide)) (g_recv.obj (ci := 5) rfl (by decide) (show 23 < N by omega)) rfl ⟨⟨by decide, by decide⟩, by decide, by decide⟩ (lb rfl) ?_
          refine w_if_eq (tgt := 70) dX5_readStatement_62 (by decide) (fun c_62 => ?_) (fun c_62 => ?_)
          · refine w_aload_n dX5_readStatement_70 rfl ?_
            refine w_iconst (v := 1) dX5_readStatement_71 (by decide) ?_
            rw [b2i_0.mp c_6, if_neg (by decide), b2i_0.mp c_20, if_neg (by decide), b2i_0.mp c_34, if_neg (by decide), b2i_0.mp c_48, if_neg (by decide), b2i_0.mp c_62, if_neg (by decide)]
            refine y_callV dX5_readStatement_72 lk_X5_55 [.int (nI 1)] rfl (c_fail E l hN ht 1) (g_recv.obj (ci := 5) rfl (by decide) (show 23 < N by omega)) rfl ⟨⟨by decide, by decide⟩, by decide, by decide⟩ (lb rfl) ?_
            refine w_iret dX5_readStatement_75 rfl rfl ⟨_, _, _, rfl, rd_fail (frR.refl I) (fun _ _ _ => rfl) hp.2.2.1 hgb _ _, rfl⟩ (by decide) (by decide)
          · refine w_aload_n dX5_readStatement_65 rfl ?_
            rw [b2i_0.mp c_6, if_neg (by decide), b2i_0.mp c_20, if_neg (by decide), b2i_0.mp c_34, if_neg (by decide), b2i_0.mp c_48, if_neg (by decide), if_pos (b2i_ne.mp c_62)]
            refine j_callV dX5_readStatement_66 lk_X5_85 [] rfl (c_readMisere E l hR h6 hg hgb hN hr ht ha hp) (g_recv.obj (ci := 5) rfl (by decide) (show 23 < N by omega)) rfl ⟨⟨by decide, by decide⟩, by decide, by decide⟩ (lb rfl) (fun x_66 I' J' h_66 => ?_)
            refine w_iret dX5_readStatement_69 rfl (nz_01 h_66.b) ⟨_, _, _, rfl, h_66, rfl⟩ (by decide) (by decide)
        · refine w_aload_n dX5_readStatement_51 rfl ?_
          rw [b2i_0.mp c_6, if_neg (by decide), b2i_0.mp c_20, if_neg (by decide), b2i_0.mp c_34, if_neg (by decide), if_pos (b2i_ne.mp c_48)]
          refine j_callV dX5_readStatement_52 lk_X5_80 [] rfl (c_readPasses E l hR h6 hg hgb hN hr ht ha hp hps) (g_recv.obj (ci := 5) rfl (by decide) (show 23 < N by omega)) rfl ⟨⟨by decide, by decide⟩, by decide, by decide⟩ (lb rfl) (fun x_52 I' J' h_52 => ?_)
          refine w_iret dX5_readStatement_55 rfl (nz_01 h_52.b) ⟨_, _, _, rfl, h_52, rfl⟩ (by decide) (by decide)
      · refine w_aload_n dX5_readStatement_37 rfl ?_
        rw [b2i_0.mp c_6, if_neg (by decide), b2i_0.mp c_20, if_neg (by decide), if_pos (b2i_ne.mp c_34)]
        refine j_callV dX5_readStatement_38 lk_X5_75 [] rfl (c_readShared E l hR h6 hg hgb hN hr ht ha hp) (g_recv.obj (ci := 5) rfl (by decide) (show 23 < N by omega)) rfl ⟨⟨by decide, by decide⟩, by decide, by decide⟩ (lb rfl) (fun x_38 I' J' h_38 => ?_)
        refine w_iret dX5_readStatement_41 rfl (nz_01 h_38.b) ⟨_, _, _, rfl, h_38, rfl⟩ (by decide) (by decide)
    · refine w_aload_n dX5_readStatement_23 rfl ?_
      rw [b2i_0.mp c_6, if_neg (by decide), if_pos (b2i_ne.mp c_20)]
      refine j_callV dX5_readStatement_24 lk_X5_70 [] rfl (c_readHeap E l hR h6 hg hgb hN hr ht ha hp) (g_recv.obj (ci := 5) rfl (by decide) (show 23 < N by omega)) rfl ⟨⟨by decide, by decide⟩, by decide, by decide⟩ (lb rfl) (fun x_24 I' J' h_24 => ?_)
      refine w_iret dX5_readStatement_27 rfl (nz_01 h_24.b) ⟨_, _, _, rfl, h_24, rfl⟩ (by decide) (by decide)
  · refine w_aload_n dX5_readStatement_9 rfl ?_
    refine j_callV dX5_readStatement_10 lk_X5_65 [] rfl (c_readRule E l hR h6 hg hgb hN hr ht ha hp) (g_recv.obj (ci := 5) rfl (by decide) (show 23 < N by omega)) rfl ⟨⟨by decide, by decide⟩, by decide, by decide⟩ (lb rfl) (fun x_10 I' J' h_10 => ?_)
    refine w_iret dX5_readStatement_13 rfl (nz_01 h_10.b) ⟨_, _, _, rfl, (by rw [if_pos (b2i_ne.mp c_6)]; exact h_10), rfl⟩ (by decide) (by decide)
set_option maxRecDepth 100000 in
theorem c_readText (hR : R 23 0 = some 24) (h6 : R 23 6 = some g) (hg : isG R N g) (hgb : g = 1 ∨ g = 25) (hN : 24 < N) (hL : L ≤ 400) (hbt : ∀ i, i < L → tx i < 256 ∧ I 24 i = sx (tx i)) (hd : drC I J g) : g_Ct E l mX5_readText 8 170 0 0 [.ref 23, .int (nI L)] (I, J, R, D, N, ex) (g_rj (fun x I' J' => rdT g I J x I' J' (rdF tx L)) R D N ex) := by
  refine g_Ct.of (by decide +kernel) (lb rfl) ?_
  have hgN : g + 22 ≤ N := hg.2.1
  unfold rdF
  generalize hQ : rdTx tx L (L + 1) 0 PS.nil = Q
  have loop : ∀ (f i a : Nat) (P : PS) (I' : Nat → Nat → Int32) (J' : Nat → Nat → Int64), i + f = L + 1 → rdTx tx L f a P = Q → a ≤ L → frL g I I' J J' → rdC I' tx L → I' 23 4 = nI a → psC I' J' g P → psOK P → g_Wp E l mX5_readText { frames := 8, cells := 0, slots := 0, locals := 170 } (g_Fin E (g_rj (fun x I' J' => rdT g I J x I' J' Q) R D N ex) 0 0) 0 0 32 [(2, .int (nI i)), (0, .ref 23), (1, .int (nI L))] [] (I', J', R, D, N, ex) := by
    intro f
    induction f with
    | zero =>
      intro i a P I' J' hi hq ha f1 hr h4 hp hok
      obtain rfl : i = L + 1 := by omega
      refine w_iload_n dX5_readText_32 rfl ?_
      refine w_aload_n dX5_readText_33 rfl ?_
      refine x_geti (ci := 5) (k := 2) dX5_readText_34 rfl (by decide) (by decide) (by omega) fl_X5_32 rfl ?_
      rw [hr.1]
      refine w_icmp_gt (tgt := 82) dX5_readText_37 (by decide) (fun c_37 => ?_) (fun c_37 => absurd ((nI_lt (by omega) (by omega))) c_37)
      refine w_iconst (v := 1) dX5_readText_82 (by decide) ?_
      refine w_iret dX5_readText_83 rfl rfl ⟨_, _, _, rfl, (by rw [← hq]; exact ⟨f1, rfl, hp⟩), rfl⟩ (by decide) (by decide)
    | succ f ih =>
      intro i a P I' J' hi hq ha f1 hr h4 hp hok
      rw [rdTx] at hq
      have hk4 : tkK tx L a ≤ 4 := kb_le _ _ _
      by_cases h0 : tkK tx L a = 0
      · rw [if_pos h0] at hq
        refine w_iload_n dX5_readText_32 rfl ?_
        refine w_aload_n dX5_readText_33 rfl ?_
        refine x_geti (ci := 5) (k := 2) dX5_readText_34 rfl (by decide) (by decide) (by omega) fl_X5_32 rfl ?_
        rw [hr.1]
        refine w_icmp_gt (tgt := 82) dX5_readText_37 (by decide) (fun c_37 => absurd c_37 ((nI_nlt (by omega) (by omega)))) (fun c_37 => ?_)
        refine w_aload_n dX5_readText_40 rfl ?_
        refine u_callV dX5_readText_41 lk_X5_45 [] rfl (c_nextToken E l hR hN hr ha h4) (g_recv.obj (ci := 5) rfl (by decide) (show 23 < N by omega)) rfl ⟨⟨by decide, by decide⟩, by decide, by decide⟩ (lb rfl) (fun I2 h_41 => ?_)
        obtain ⟨g1, g2⟩ := h_41
        refine w_aload_n dX5_readText_44 rfl ?_
        refine x_geti (ci := 5) (k := 5) dX5_readText_45 rfl (by decide) (by decide) (by omega) fl_X5_48 rfl ?_
        rw [g2.2.2, h0]
        refine w_if_ne (tgt := 53) dX5_readText_48 (by decide) (fun c_48 => absurd (rfl) c_48) (fun c_48 => ?_)
        refine w_iconst (v := 1) dX5_readText_51 (by decide) ?_
        refine w_iret dX5_readText_52 rfl rfl ⟨_, _, _, rfl, (by rw [← hq]; exact ⟨f1.q g1.q, rfl, hp.k hgb g1⟩), rfl⟩ (by decide) (by decide)
      · rw [if_neg h0] at hq
        generalize hS : rdSt tx L a P = S at hq
        refine w_iload_n dX5_readText_32 rfl ?_
        refine w_aload_n dX5_readText_33 rfl ?_
        refine x_geti (ci := 5) (k := 2) dX5_readText_34 rfl (by decide) (by decide) (by omega) fl_X5_32 rfl ?_
        rw [hr.1]
        refine w_icmp_gt (tgt := 82) dX5_readText_37 (by decide) (fun c_37 => absurd c_37 ((nI_nlt (by omega) (by omega)))) (fun c_37 => ?_)
        refine w_aload_n dX5_readText_40 rfl ?_
        refine u_callV dX5_readText_41 lk_X5_45 [] rfl (c_nextToken E l hR hN hr ha h4) (g_recv.obj (ci := 5) rfl (by decide) (show 23 < N by omega)) rfl ⟨⟨by decide, by decide⟩, by decide, by decide⟩ (lb rfl) (fun I2 h_41 => ?_)
        obtain ⟨g1, g2⟩ := h_41
        refine w_aload_n dX5_readText_44 rfl ?_
        refine x_geti (ci := 5) (k := 5) dX5_readText_45 rfl (by decide) (by decide) (by omega) fl_X5_48 rfl ?_
        rw [g2.2.2]
        refine w_if_ne (tgt := 53) dX5_readText_48 (by decide) (fun c_48 => ?_) (fun c_48 => absurd c_48 ((fun q => h0 (n_eq (b := 0) q))))
        refine w_aload_n dX5_readText_53 rfl ?_
        refine j_callV dX5_readText_54 lk_X5_51 [] rfl (c_readStatement E l hR h6 hg hgb hN (hr.fr g1) g2 ha (hp.k hgb g1) hok.2.2.2.2) (g_recv.obj (ci := 5) rfl (by decide) (show 23 < N by omega)) rfl ⟨⟨by decide, by decide⟩, by decide, by decide⟩ (lb rfl) (fun x_54 I3 J3 h_54 => ?_)
        rw [hS] at h_54
        obtain ⟨q1, q2⟩ := h_54
        have f3 := (f1.q g1.q).q q1
        have r3 := (hr.fr g1).q q1 hgb
        refine w_if_ne (tgt := 62) dX5_readText_57 (by decide) (fun c_57 => ?_) (fun c_57 => ?_)
        · rcases S with q | q
          · exact absurd q2.1 c_57
          have sok := rdSt_ok ha hok hS
          have hk5 : tkK tx L q.2 ≤ 4 := kb_le _ _ _
          dsimp only at hq
          refine w_aload_n dX5_readText_62 rfl ?_
          refine x_geti (ci := 5) (k := 5) dX5_readText_63 rfl (by decide) (by decide) (by omega) fl_X5_48 rfl ?_
          rw [q2.2.1.2.2]
          refine w_iconst (v := 3) dX5_readText_66 (by decide) ?_
          refine w_icmp_eq (tgt := 76) dX5_readText_67 (by decide) (fun c_67 => ?_) (fun c_67 => ?_)
          · refine w_iinc (v := nI (i + 1)) dX5_readText_76 rfl (nI_inc _) (by decide) rfl ?_
            refine w_goto (tgt := 32) dX5_readText_79 (by decide) ?_
            rw [if_neg (fun z => z (n_eq (b := 3) c_67))] at hq
            exact w_lv [2, 0, 1] (ih (i + 1) (tkE tx L q.2) q.1 I3 J3 (by omega) hq (tk_b sok.2.2).2.2.2.1 f3 r3 q2.2.1.2.1 q2.2.2 sok.1)
          · rw [if_pos (fun q => c_67 (by rw [q]; rfl))] at hq
            refine w_aload_n dX5_readText_70 rfl ?_
            refine w_iconst (v := 1) dX5_readText_71 (by decide) ?_
            refine y_callV dX5_readText_72 lk_X5_55 [.int (nI 1)] rfl (c_fail E l hN q2.2.1 1) (g_recv.obj (ci := 5) rfl (by decide) (show 23 < N by omega)) rfl ⟨⟨by decide, by decide⟩, by decide, by decide⟩ (lb rfl) ?_
            refine w_iret dX5_readText_75 rfl rfl ⟨_, _, _, rfl, (by rw [← hq]; exact ⟨f3.q ((frR.fl _ _).q (fun _ _ _ => rfl)), rfl, up2_s .., q2.2.2.2.2.1.r hgb (frR.fl _ _) (fun _ _ _ => rfl)⟩), rfl⟩ (by decide) (by decide)
        · obtain ⟨q, rfl⟩ : ∃ q, S = .inl q := (by rcases S with q | q; exact ⟨q, rfl⟩; exact absurd q2.1 (by rw [c_57]; decide))
          refine w_iconst (v := 0) dX5_readText_60 (by decide) ?_
          refine w_iret dX5_readText_61 rfl rfl ⟨_, _, _, rfl, (by rw [← hq]; exact ⟨f3, rfl, q2.2⟩), rfl⟩ (by decide) (by decide)
  refine w_aload_n dX5_readText_0 rfl ?_
  refine w_iload_n dX5_readText_1 rfl ?_
  refine w_aload_n dX5_readText_2 rfl ?_
  refine x_getr (ci := 5) (k := 0) (a := 24) dX5_readText_3 rfl (by decide) (by decide) (by omega) fl_X5_9 (Or.inr ⟨_, rfl⟩) hR ?_
  refine x_alen (c := 11) (L := 400) dX5_readText_6 rfl (by decide) (by decide) hN ?_
  refine w_mmin dX5_readText_7 lk_X5_26.2.2.1 (by decide) (lb rfl) (by decide) (by decide) ?_
  refine w_st (show _ = [.int (nI L), .ref 23] from congrArg (fun x => [Value.int x, Value.ref 23]) (mm_min (n := 400) hL (by decide))) ?_
  refine x_puti (ci := 5) (k := 2) dX5_readText_10 rfl (by decide) (by decide) (by omega) fl_X5_32 rfl rfl ?_
  refine w_aload_n dX5_readText_13 rfl ?_
  refine w_iconst (v := 0) dX5_readText_14 (by decide) ?_
  refine x_puti (ci := 5) (k := 4) dX5_readText_15 rfl (by decide) (by decide) (by omega) fl_X5_35 rfl rfl ?_
  refine w_aload_n dX5_readText_18 rfl ?_
  refine x_getr (ci := 5) (k := 6) (a := g) dX5_readText_19 rfl (by decide) (by decide) (by omega) fl_X5_22 (Or.inl ⟨_, rfl⟩) h6 ?_
  refine u_callV dX5_readText_22 lk_X5_38 [] rfl (c_Gm_clear E l hg) (g_recv.obj (ci := 0) hg.1 (by decide) (show g < N by omega)) rfl ⟨⟨by decide, by decide⟩, by decide, by decide⟩ (lb rfl) (fun I3 h_22 => ?_)
  obtain ⟨g1, g2, g3, g4⟩ := h_22
  refine w_aload_n dX5_readText_25 rfl ?_
  refine w_iconst (v := 0) dX5_readText_26 (by decide) ?_
  refine x_putz (ci := 5) (k := 7) dX5_readText_27 rfl (by decide) (by decide) (by omega) fl_X5_41 rfl rfl (by decide) ?_
  refine w_iconst (v := 0) dX5_readText_30 (by decide) ?_
  refine w_istore_n dX5_readText_31 (by decide) rfl ?_
  have n23 : (23 : Nat) ≠ g ∧ (23 : Nat) ≠ g + 2 := (by omega)
  have e23 : I3 23 = _ := g1 23 n23.1 n23.2
  have eo : ∀ o, o ≠ 23 → o ≠ g → o ≠ g + 2 → up2 I3 23 7 0 o = I o := (fun o a b c => by funext j; rw [up2_n _ _ (by simp [a]), g1 o b c, up2_n _ _ (by simp [a]), up2_n _ _ (by simp [a])])
  have eg : ∀ o, o ≠ 23 → up2 I3 23 7 0 o = I3 o := (fun o a => by funext j; exact up2_n _ _ (by simp [a]))
  refine w_lv [2, 0, 1] (loop (L + 1) 0 0 PS.nil _ J (by omega) hQ (Nat.zero_le _) ⟨fun o a b => eo o a (by omega) (by omega), by rw [up2_n _ _ (by simp), e23, up2_n _ _ (by simp), up2_n _ _ (by simp)], fun _ _ _ => rfl⟩ ⟨by rw [up2_n _ _ (by simp), e23, up2_n _ _ (by simp), up2_s], hL, fun i hi => by rw [eo 24 (by decide) (by omega) (by omega)]; exact hbt i hi⟩ (by rw [up2_n _ _ (by simp), e23, up2_s]; rfl) ?_ psOK_nil)
  refine ⟨by rw [eg _ (by omega)]; exact g2, by decide, fun k hk => ?_, fun k hk => absurd hk (Nat.not_lt_zero k), ⟨by rw [eg _ (by omega)]; exact g3, by decide⟩, ⟨by rw [eg _ (by omega)]; exact g4 0 (by decide), by rw [eg _ (by omega)]; exact g4 1 (by decide), by rw [eg _ (by omega)]; exact g4 2 (by decide), by rw [eg _ (by omega)]; exact g4 3 (by decide), by rw [eg _ (by omega)]; exact g4 4 (by decide), fun i hi => absurd hi (Nat.not_lt_zero i)⟩, up2_s .., psOK_nil.2.2.1⟩
  rw [eo _ (by omega) (by omega) (by omega)]
  exact hd k hk
end RT
