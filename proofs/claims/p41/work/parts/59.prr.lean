/-! HeapGames$TextReader: statements -/
theorem amR_ok {tx : Nat → Nat} {L most : Nat} : ∀ (f a : Nat) (acc : List Nat) (q : List Nat × Nat), acc.length ≤ 8 → acc.length + f = 9 → a ≤ L → (∀ x ∈ acc, 1 ≤ x ∧ x ≤ most) → amR tx L most f a acc = .inr q → (1 ≤ q.1.length ∧ q.1.length ≤ 8) ∧ (∀ x ∈ q.1, 1 ≤ x ∧ x ≤ most) ∧ a ≤ q.2 ∧ q.2 ≤ L
  | 0, a, acc, q, h1, h2, _, _, _ => by omega
  | f + 1, a, acc, q, h1, h2, ha, h3, h4 => by
    rw [amR] at h4
    have hb := tk_b (tx := tx) ha
    split at h4
    · rename_i hs
      cases h4
      exact ⟨⟨hs.1, h1⟩, h3, Nat.le_refl _, ha⟩
    · split at h4
      · cases h4
      · split at h4
        · cases h4
        · rename_i hr
          split at h4
          · cases h4
          · split at h4
            · cases h4
            · rename_i h8
              have hl : (acc ++ [nmT tx L a]).length = acc.length + 1 := by rw [List.length_append]; rfl
              have t := amR_ok f (tkE tx L a) (acc ++ [nmT tx L a]) q (by omega) (by omega) hb.2.2.2.1 (fun x hx => by
                rcases List.mem_append.mp hx with z | z
                · exact h3 x z
                · rw [List.mem_singleton] at z; subst z; omega) h4
              exact ⟨t.1, t.2.1, by omega, t.2.2.2⟩
theorem kd_le (tx : Nat → Nat) (L a : Nat) : kdS tx L a = -1 ∨ ∃ k, k ≤ 4 ∧ kdS tx L a = nI k := by
  unfold kdS
  split
  · exact Or.inr ⟨0, by decide, rfl⟩
  · split
    · exact Or.inr ⟨1, by decide, rfl⟩
    · split
      · exact Or.inr ⟨2, by decide, rfl⟩
      · split
        · exact Or.inr ⟨3, by decide, rfl⟩
        · split
          · exact Or.inr ⟨4, by decide, rfl⟩
          · exact Or.inl rfl
theorem cdT_lt {tx : Nat → Nat} {L a : Nat} (hu : isNm tx L a = true) : cdT tx L a < 2 ^ 64 := by
  have hu2 := of_decide_eq_true hu
  have h := naF_lt (tx := tx) (s := tkS tx L a) (tkN tx L a) (fun j hj => by have := kb_1 ((tk_k (j := tkS tx L a + j) (Or.inl hu2.1) (Nat.le_add_right _ _) (by unfold tkN at hj; omega)).trans hu2.1); omega)
  have hp : (256 : Nat) ^ tkN tx L a ≤ 256 ^ 8 := Nat.pow_le_pow_right (by decide) hu2.2
  unfold cdT
  omega
theorem fnR_lt {P : PS} {x t : Nat} (h : fnR P x = some t) : t < P.ru.length := by
  have := perF_some h
  omega
theorem psC.shd {I I' : Nat → Nat → Int32} {J J' : Nat → Nat → Int64} {g : Nat} {P : PS} (h : psC I J g P) (f : ∀ o, g ≤ o → o < g + 22 → o ≠ g → I' o = I o) (f1 : I' g 1 = I g 1) (f' : ∀ o, g ≤ o → o < g + 22 → J' o = J o) (h7 : I' 23 7 = I 23 7) {sh : List Nat} (h2 : I' g 2 = nI (shM sh)) (h3 : shM sh < 65536) : psC I' J' g (P.ru, P.hs, P.ps, P.hp, P.mi, sh) := by
  obtain ⟨e1, e2, e3, e4, e5, e6, e8, e9⟩ := h
  refine ⟨by rw [f1]; exact e1, e2, fun k hk => ?_, fun k hk => ?_, ⟨h2, h3⟩, e6.fr (f _ (by omega) (by omega) (by omega)) (f _ (by omega) (by omega) (by omega)), by rw [h7]; exact e8, e9⟩
  · rw [f _ (by omega) (by omega) (by omega), f' _ (by omega) (by omega)]; exact e3 k hk
  · have hk' : k < P.ru.length := hk
    rw [f _ (by omega) (by omega) (by omega), f' _ (by omega) (by omega)]; exact e4 k hk'
theorem psC.ste {I I' : Nat → Nat → Int32} {J : Nat → Nat → Int64} {g : Nat} {P : PS} (h : psC I J g P) (f : ∀ o, g ≤ o → o < g + 22 → o ≠ g + 2 → I' o = I o) {hs : List (Nat × Nat)} {ps : Nat} {hp mi : Bool} (h7 : I' 23 7 = b2i hp) (hs1 : stC I' (g + 2) (hs, ps, mi, [])) (hs2 : stOK P.ru.length (hs, ps, mi, [])) : psC I' J g (P.ru, hs, ps, hp, mi, P.sh) := by
  obtain ⟨h1, h2, h3, h4, h5, h6, h8, h9⟩ := h
  refine ⟨by rw [f _ (by omega) (by omega) (by omega)]; exact h1, h2, fun k hk => ?_, fun k hk => ?_, by rw [f _ (by omega) (by omega) (by omega)]; exact h5, hs1, h7, hs2⟩
  · rw [f _ (by omega) (by omega) (by omega)]; exact h3 k hk
  · have hk' : k < P.ru.length := hk
    rw [f _ (by omega) (by omega) (by omega)]; exact h4 k hk'
theorem frQ.ste {g o : Nat} (ho : o = g + 2 ∨ o = g) (I : Nat → Nat → Int32) (J : Nat → Nat → Int64) (k : Nat) (v : Int32) (hg : g = 1 ∨ g = 25) : frQ g I (up2 I o k v) J J := ⟨fun o' _ b => by funext j; exact up2_n _ _ (by omega), fun j _ _ _ _ _ => up2_n _ _ (by omega), fun _ _ _ => rfl⟩
theorem rdC.q {I I' : Nat → Nat → Int32} {J J' : Nat → Nat → Int64} {g : Nat} {tx : Nat → Nat} {L : Nat} (h : rdC I tx L) (f : frQ g I I' J J') (hg : g = 1 ∨ g = 25) : rdC I' tx L := ⟨by rw [f.2.1 2 (by decide) (by decide) (by decide) (by decide) (by decide)]; exact h.1, h.2.1, fun i hi => by rw [f.1 24 (by decide) (by omega)]; exact h.2.2 i hi⟩
theorem addL_1 {nr : Nat} {s : St} (hok : stOK nr s) (hnr : nr ≤ 6) {r : Nat} (hr : r < nr) (hs : s.hs.length < 4) : s_with (nI (pk4 s.rs)) (nI s.hs.length) (nI r) = nI (pk4 (s.rs ++ [r])) := by
  rw [with_nI hs (by omega)]
  have := pk4_app (p := 0) (b := r) (hok.rs hnr).lt (by rw [St.rs_len]; exact hs)
  rw [St.rs_len] at this
  exact congrArg nI this
theorem addL_2 {nr : Nat} {s : St} (hok : stOK nr s) (hs : s.hs.length < 4) {z : Nat} (hz : z ≤ 15) : s_with (nI s.pos) (nI s.hs.length) (nI z) = nI (pk4 (s.zs ++ [z]) + 2 ^ 16 * s.ps) := by
  rw [with_nI hs (by omega)]
  have := pk4_app (p := s.ps) (b := z) hok.zs (by rw [St.zs_len]; exact hs)
  rw [St.zs_len] at this
  exact congrArg nI this
theorem addL_3 {nr : Nat} {s : St} (hok : stOK nr s) {r z : Nat} (hr : r < nr) (hs : s.hs.length < 4) (hz : z ≤ 15) : stOK nr (s.hs ++ [(r, z)], s.ps, s.mi, s.pl) := by
  refine ⟨?_, fun x hx => ?_, hok.2.2⟩
  · show (s.hs ++ [(r, z)]).length ≤ 4
    rw [List.length_append, List.length_singleton]
    omega
  · have hx' : x ∈ s.hs ++ [(r, z)] := hx
    rw [List.mem_append, List.mem_singleton] at hx'
    rcases hx' with q | q
    · exact hok.2.1 x q
    · rw [q]; exact ⟨hr, hz⟩
section RS
variable (E : GE) (l : Launch)
variable {I : Nat → Nat → Int32} {J : Nat → Nat → Int64} {R : Nat → Nat → Option Nat} {D : Nat → Nat → UInt64} {N : Nat} {ex : Bool} {tx : Nat → Nat} {L a g : Nat} {P : PS}
set_option maxRecDepth 100000 in
theorem c_readMisere (hR : R 23 0 = some 24) (h6 : R 23 6 = some g) (hg : isG R N g) (hgb : g = 1 ∨ g = 25) (hN : 24 < N) (hr : rdC I tx L) (ht : tkC I tx L a) (ha : a ≤ L) (hp : psC I J g P) : g_Ct E l mX5_readMisere 2 43 0 0 [.ref 23] (I, J, R, D, N, ex) (g_rj (fun x I' J' => rdP tx L g I J x I' J' (rdMi tx L a P)) R D N ex) := by
  refine g_Ct.of (by decide +kernel) (lb rfl) ?_
  have hL := hr.2.1
  have hb := tk_b (tx := tx) ha
  have hgN : g + 22 ≤ N := hg.2.1
  generalize hq : rdMi tx L a P = Q
  unfold rdMi at hq
  cases hm : P.mi with
  | true =>
    rw [if_pos hm] at hq
    refine w_aload_n dX5_readMisere_0 rfl ?_
    refine x_getr (ci := 5) (k := 6) (a := g) dX5_readMisere_1 rfl (by decide) (by decide) (by omega) fl_X5_22 (Or.inl ⟨_, rfl⟩) h6 ?_
    refine x_getr (ci := 0) (k := 3) (a := g + 2) dX5_readMisere_4 hg.1 (by decide) (by decide) (by omega) fl_X5_117 (Or.inl ⟨_, rfl⟩) hg.2.2.2.2.1 ?_
    refine x_getz (ci := 4) (k := 3) dX5_readMisere_7 hg.2.2.2.2.2.1.1 (by decide) (by decide) (by omega) fl_X5_141 rfl ?_
    rw [hp.2.2.2.2.2.1.2.2.2.1, show P.st.mi = true from hm]
    refine w_if_eq (tgt := 19) dX5_readMisere_10 (by decide) (fun c_10 => absurd c_10 ((by decide))) (fun c_10 => ?_)
    refine w_aload_n dX5_readMisere_13 rfl ?_
    refine w_iconst (v := 2) dX5_readMisere_14 (by decide) ?_
    refine y_callV dX5_readMisere_15 lk_X5_55 [.int (nI 2)] rfl (c_fail E l hN ht 2) (g_recv.obj (ci := 5) rfl (by decide) (show 23 < N by omega)) rfl ⟨⟨by decide, by decide⟩, by decide, by decide⟩ (lb rfl) ?_
    refine w_iret dX5_readMisere_18 rfl rfl ⟨_, _, _, rfl, (by rw [← hq]; exact rd_fail (frR.refl I) (fun _ _ _ => rfl) hp.2.2.1 hgb _ _), rfl⟩ (by decide) (by decide)
  | false =>
    rw [if_neg (by rw [hm]; decide)] at hq
    have f1 := frQ.ste (Or.inl rfl) I J 3 1 hgb
    have fin : ∀ I2, frK (up2 I (g + 2) 3 1) I2 → tkC I2 tx L (tkE tx L a) → rdP tx L g I J 1 I2 J Q := by
      intro I2 k1 k2
      rw [← hq]
      refine ⟨f1.trans k1.q, rfl, k2, psC.k ?_ hgb k1⟩
      refine hp.ste (fun o _ _ c => by funext j; exact up2_n _ _ (by omega)) (by rw [up2_n _ _ (by omega)]; exact hp.2.2.2.2.2.2.1) ?_ ?_
      · obtain ⟨s1, s2, s3, s4, s5, s6⟩ := hp.2.2.2.2.2.1
        exact ⟨by rw [up2_n _ _ (by omega)]; exact s1, by rw [up2_n _ _ (by omega)]; exact s2, by rw [up2_n _ _ (by omega)]; exact s3, up2_s .., by rw [up2_n _ _ (by omega)]; exact s5, fun i hi => absurd hi (Nat.not_lt_zero i)⟩
      · exact hp.2.2.2.2.2.2.2
    refine w_aload_n dX5_readMisere_0 rfl ?_
    refine x_getr (ci := 5) (k := 6) (a := g) dX5_readMisere_1 rfl (by decide) (by decide) (by omega) fl_X5_22 (Or.inl ⟨_, rfl⟩) h6 ?_
    refine x_getr (ci := 0) (k := 3) (a := g + 2) dX5_readMisere_4 hg.1 (by decide) (by decide) (by omega) fl_X5_117 (Or.inl ⟨_, rfl⟩) hg.2.2.2.2.1 ?_
    refine x_getz (ci := 4) (k := 3) dX5_readMisere_7 hg.2.2.2.2.2.1.1 (by decide) (by decide) (by omega) fl_X5_141 rfl ?_
    rw [hp.2.2.2.2.2.1.2.2.2.1, show P.st.mi = false from hm]
    refine w_if_eq (tgt := 19) dX5_readMisere_10 (by decide) (fun c_10 => ?_) (fun c_10 => absurd (rfl) c_10)
    refine w_aload_n dX5_readMisere_19 rfl ?_
    refine x_getr (ci := 5) (k := 6) (a := g) dX5_readMisere_20 rfl (by decide) (by decide) (by omega) fl_X5_22 (Or.inl ⟨_, rfl⟩) h6 ?_
    refine x_getr (ci := 0) (k := 3) (a := g + 2) dX5_readMisere_23 hg.1 (by decide) (by decide) (by omega) fl_X5_117 (Or.inl ⟨_, rfl⟩) hg.2.2.2.2.1 ?_
    refine w_iconst (v := 1) dX5_readMisere_26 (by decide) ?_
    refine x_putz (ci := 4) (k := 3) dX5_readMisere_27 hg.2.2.2.2.2.1.1 (by decide) (by decide) (by omega) fl_X5_141 rfl rfl (by decide) ?_
    refine w_aload_n dX5_readMisere_30 rfl ?_
    refine u_callV dX5_readMisere_31 lk_X5_45 [] rfl (c_nextToken E l hR hN (hr.q f1 hgb) hb.2.2.2.1 (by rw [up2_n _ _ (by omega)]; exact ht.2.1)) (g_recv.obj (ci := 5) rfl (by decide) (show 23 < N by omega)) rfl ⟨⟨by decide, by decide⟩, by decide, by decide⟩ (lb rfl) (fun I2 h_31 => ?_)
    obtain ⟨g1, g2⟩ := h_31
    refine w_iconst (v := 1) dX5_readMisere_34 (by decide) ?_
    refine w_iret dX5_readMisere_35 rfl rfl ⟨_, _, _, rfl, fin _ g1 g2, rfl⟩ (by decide) (by decide)
set_option maxRecDepth 100000 in
theorem c_readPasses (hR : R 23 0 = some 24) (h6 : R 23 6 = some g) (hg : isG R N g) (hgb : g = 1 ∨ g = 25) (hN : 24 < N) (hr : rdC I tx L) (ht : tkC I tx L a) (ha : a ≤ L) (hp : psC I J g P) (hps : P.hp = false → P.ps = 0) : g_Ct E l mX5_readPasses 2 43 0 0 [.ref 23] (I, J, R, D, N, ex) (g_rj (fun x I' J' => rdP tx L g I J x I' J' (rdPa tx L a P)) R D N ex) := by
  refine g_Ct.of (by decide +kernel) (lb rfl) ?_
  have hL := hr.2.1
  have hb := tk_b (tx := tx) ha
  have hb2 := tk_b (tx := tx) hb.2.2.2.1
  have hgN : g + 22 ≤ N := hg.2.1
  generalize hq : rdPa tx L a P = Q
  unfold rdPa at hq
  cases hm : P.hp with
  | true =>
    rw [if_pos hm] at hq
    refine w_aload_n dX5_readPasses_0 rfl ?_
    refine x_getz (ci := 5) (k := 7) dX5_readPasses_1 rfl (by decide) (by decide) (by omega) fl_X5_41 rfl ?_
    rw [hp.2.2.2.2.2.2.1, hm]
    refine w_if_eq (tgt := 13) dX5_readPasses_4 (by decide) (fun c_4 => absurd c_4 ((by decide))) (fun c_4 => ?_)
    refine w_aload_n dX5_readPasses_7 rfl ?_
    refine w_iconst (v := 2) dX5_readPasses_8 (by decide) ?_
    refine y_callV dX5_readPasses_9 lk_X5_55 [.int (nI 2)] rfl (c_fail E l hN ht 2) (g_recv.obj (ci := 5) rfl (by decide) (show 23 < N by omega)) rfl ⟨⟨by decide, by decide⟩, by decide, by decide⟩ (lb rfl) ?_
    refine w_iret dX5_readPasses_12 rfl rfl ⟨_, _, _, rfl, (by rw [← hq]; exact rd_fail (frR.refl I) (fun _ _ _ => rfl) hp.2.2.1 hgb _ _), rfl⟩ (by decide) (by decide)
  | false =>
    rw [if_neg (by rw [hm]; decide)] at hq
    have f1 : frQ g I (up2 I 23 7 1) J J := ⟨fun o a _ => by funext j; exact up2_n _ _ (by omega), fun k _ _ _ d _ => up2_n _ _ (by omega), fun _ _ _ => rfl⟩
    have hd1 : drC (up2 I 23 7 1) J g := hp.2.2.1.fr (fun o a b => by funext j; exact up2_n _ _ (fun q => (gd_23 hgb a b).1 q.1)) (fun _ _ _ => rfl)
    have fl : ∀ I2, frK (up2 I 23 7 1) I2 → ∀ s k, rdP tx L g I J (b2i false) (up2 I2 23 9 (flS s k)) J (.inl (s, k)) := fun I2 k1 s k => ⟨(f1.trans k1.q).trans ((frR.fl I2 _).q (fun _ _ _ => rfl)), rfl, up2_s .., (hd1.r hgb k1.r (fun _ _ _ => rfl)).r hgb (frR.fl _ _) (fun _ _ _ => rfl)⟩
    refine w_aload_n dX5_readPasses_0 rfl ?_
    refine x_getz (ci := 5) (k := 7) dX5_readPasses_1 rfl (by decide) (by decide) (by omega) fl_X5_41 rfl ?_
    rw [hp.2.2.2.2.2.2.1, hm]
    refine w_if_eq (tgt := 13) dX5_readPasses_4 (by decide) (fun c_4 => ?_) (fun c_4 => absurd (rfl) c_4)
    refine w_aload_n dX5_readPasses_13 rfl ?_
    refine w_iconst (v := 1) dX5_readPasses_14 (by decide) ?_
    refine x_putz (ci := 5) (k := 7) dX5_readPasses_15 rfl (by decide) (by decide) (by omega) fl_X5_41 rfl rfl (by decide) ?_
    refine w_aload_n dX5_readPasses_18 rfl ?_
    refine u_callV dX5_readPasses_19 lk_X5_45 [] rfl (c_nextToken E l hR hN (hr.q f1 hgb) hb.2.2.2.1 (by rw [up2_n _ _ (by omega)]; exact ht.2.1)) (g_recv.obj (ci := 5) rfl (by decide) (show 23 < N by omega)) rfl ⟨⟨by decide, by decide⟩, by decide, by decide⟩ (lb rfl) (fun I2 h_19 => ?_)
    obtain ⟨g1, g2⟩ := h_19
    have r2 := (hr.q f1 hgb).fr g1
    refine w_aload_n dX5_readPasses_22 rfl ?_
    refine y_callV dX5_readPasses_23 lk_X5_126 [] rfl (c_isNumber E l hN g2 hb.2.2.2.1 hL) (g_recv.obj (ci := 5) rfl (by decide) (show 23 < N by omega)) rfl ⟨⟨by decide, by decide⟩, by decide, by decide⟩ (lb rfl) ?_
    refine w_if_ne (tgt := 35) dX5_readPasses_26 (by decide) (fun c_26 => ?_) (fun c_26 => ?_)
    · have hu : isNu tx L (tkE tx L a) = true := b2i_ne.mp c_26
      rw [if_neg (by rw [hu]; decide)] at hq
      have hv := nmT_lt hu
      refine w_aload_n dX5_readPasses_35 rfl ?_
      refine y_callV dX5_readPasses_36 lk_X5_129 [] rfl (c_numberOfToken E l hR hN r2 g2 hb.2.2.2.1 hu) (g_recv.obj (ci := 5) rfl (by decide) (show 23 < N by omega)) rfl ⟨⟨by decide, by decide⟩, by decide, by decide⟩ (lb rfl) ?_
      refine w_st (show _ = [.int (nI (nmT tx L (tkE tx L a)))] from rfl) ?_
      refine w_istore_n dX5_readPasses_39 (by decide) rfl ?_
      refine w_iload_n dX5_readPasses_40 rfl ?_
      refine w_iconst (v := 3) dX5_readPasses_41 (by decide) ?_
      refine w_icmp_le (tgt := 51) dX5_readPasses_42 (by decide) (fun c_42 => ?_) (fun c_42 => ?_)
      · have hv3 := n_le (b := 3) c_42
        rw [if_neg (by omega)] at hq
        have eg : I2 (g + 2) = I (g + 2) := (by rw [g1.1 _ (by omega)]; funext j; exact up2_n _ _ (by omega))
        have hs := hp.2.2.2.2.2.1
        have hpk : pk4 P.st.zs < 65536 := hp.2.2.2.2.2.2.2.pk
        refine w_aload_n dX5_readPasses_51 rfl ?_
        refine x_getr (ci := 5) (k := 6) (a := g) dX5_readPasses_52 rfl (by decide) (by decide) (by omega) fl_X5_22 (Or.inl ⟨_, rfl⟩) h6 ?_
        refine x_getr (ci := 0) (k := 3) (a := g + 2) dX5_readPasses_55 hg.1 (by decide) (by decide) (by omega) fl_X5_117 (Or.inl ⟨_, rfl⟩) hg.2.2.2.2.1 ?_
        refine w_dup dX5_readPasses_58 rfl ?_
        refine x_geti (ci := 4) (k := 2) dX5_readPasses_59 hg.2.2.2.2.2.1.1 (by decide) (by decide) (by omega) fl_X5_137 rfl ?_
        refine w_st (show _ = [.int (nI (pk4 P.st.zs)), .ref (g + 2)] from by rw [eg, hs.2.2.1]; show [Value.int (nI (pk4 P.st.zs + 2 ^ 16 * P.ps)), _] = _; rw [hps hm]; rfl) ?_
        refine w_iload_n dX5_readPasses_62 rfl ?_
        refine w_ldc dX5_readPasses_63 kc_X5_140 ?_
        refine w_imul dX5_readPasses_65 ?_
        refine w_iadd dX5_readPasses_66 ?_
        refine w_st (show _ = [.int (nI (pk4 P.st.zs + 2 ^ 16 * nmT tx L (tkE tx L a))), .ref (g + 2)] from by rw [← nI_add, Nat.mul_comm, ← pk_mul]; rfl) ?_
        refine x_puti (ci := 4) (k := 2) dX5_readPasses_67 hg.2.2.2.2.2.1.1 (by decide) (by decide) (by omega) fl_X5_137 rfl rfl ?_
        have f3 := frQ.ste (Or.inl rfl) I2 J 2 (nI (pk4 P.st.zs + 2 ^ 16 * nmT tx L (tkE tx L a))) hgb
        refine w_aload_n dX5_readPasses_70 rfl ?_
        refine u_callV dX5_readPasses_71 lk_X5_45 [] rfl (c_nextToken E l hR hN (r2.q f3 hgb) hb2.2.2.2.1 (by rw [up2_n _ _ (by omega)]; exact g2.2.1)) (g_recv.obj (ci := 5) rfl (by decide) (show 23 < N by omega)) rfl ⟨⟨by decide, by decide⟩, by decide, by decide⟩ (lb rfl) (fun I4 h_71 => ?_)
        obtain ⟨k1, k2⟩ := h_71
        refine w_iconst (v := 1) dX5_readPasses_74 (by decide) ?_
        refine w_iret dX5_readPasses_75 rfl rfl ⟨_, _, _, rfl, (by rw [← hq]; exact ⟨((f1.trans g1.q).trans f3).trans k1.q, rfl, k2, psC.k (hp.ste (fun o c1 c2 c3 => by rw [← show I2 o = I o from by rw [g1.1 _ (gd_23 hgb c1 c2).1]; funext j; exact up2_n _ _ (fun q => (gd_23 hgb c1 c2).1 q.1)]; funext j; exact up2_n _ _ (by omega)) (by rw [up2_n _ _ (by omega), g1.2 7 (by decide) (by decide) (by decide), up2_s]; rfl) ⟨by rw [up2_n _ _ (by omega), eg]; exact hs.1, by rw [up2_n _ _ (by omega), eg]; exact hs.2.1, up2_s .., by rw [up2_n _ _ (by omega), eg]; exact hs.2.2.2.1, by rw [up2_n _ _ (by omega), eg]; exact hs.2.2.2.2.1, fun i hi => absurd hi (Nat.not_lt_zero i)⟩ ⟨hp.2.2.2.2.2.2.2.1, hp.2.2.2.2.2.2.2.2.1, hv3, hp.2.2.2.2.2.2.2.2.2.2⟩) hgb k1⟩), rfl⟩ (by decide) (by decide)
      · refine w_aload_n dX5_readPasses_45 rfl ?_
        refine w_iconst (v := 3) dX5_readPasses_46 (by decide) ?_
        rw [if_pos (n_nle (b := 3) c_42)] at hq
        refine y_callV dX5_readPasses_47 lk_X5_55 [.int (nI 3)] rfl (c_fail E l hN g2 3) (g_recv.obj (ci := 5) rfl (by decide) (show 23 < N by omega)) rfl ⟨⟨by decide, by decide⟩, by decide, by decide⟩ (lb rfl) ?_
        refine w_iret dX5_readPasses_50 rfl rfl ⟨_, _, _, rfl, (by rw [← hq]; exact fl _ g1 _ _), rfl⟩ (by decide) (by decide)
    · refine w_aload_n dX5_readPasses_29 rfl ?_
      refine w_iconst (v := 1) dX5_readPasses_30 (by decide) ?_
      rw [if_pos (by cases e : isNu tx L (tkE tx L a) with | false => rfl | true => (rw [e] at c_26; exact absurd c_26 (by decide)))] at hq
      refine y_callV dX5_readPasses_31 lk_X5_55 [.int (nI 1)] rfl (c_fail E l hN g2 1) (g_recv.obj (ci := 5) rfl (by decide) (show 23 < N by omega)) rfl ⟨⟨by decide, by decide⟩, by decide, by decide⟩ (lb rfl) ?_
      refine w_iret dX5_readPasses_34 rfl rfl ⟨_, _, _, rfl, (by rw [← hq]; exact fl _ g1 _ _), rfl⟩ (by decide) (by decide)
set_option maxRecDepth 100000 in
theorem c_readShared (hR : R 23 0 = some 24) (h6 : R 23 6 = some g) (hg : isG R N g) (hgb : g = 1 ∨ g = 25) (hN : 24 < N) (hr : rdC I tx L) (ht : tkC I tx L a) (ha : a ≤ L) (hp : psC I J g P) : g_Ct E l mX5_readShared 3 66 0 0 [.ref 23] (I, J, R, D, N, ex) (g_rj (fun x I' J' => rdP tx L g I J x I' J' (rdSh tx L a P)) R D N ex) := by
  refine g_Ct.of (by decide +kernel) (lb rfl) ?_
  have hL := hr.2.1
  have hb := tk_b (tx := tx) ha
  have hgN : g + 22 ≤ N := hg.2.1
  generalize hq : rdSh tx L a P = Q
  unfold rdSh at hq
  by_cases hm : P.sh = []
  · rw [if_neg (fun q => q hm)] at hq
    refine w_aload_n dX5_readShared_0 rfl ?_
    refine x_getr (ci := 5) (k := 6) (a := g) dX5_readShared_1 rfl (by decide) (by decide) (by omega) fl_X5_22 (Or.inl ⟨_, rfl⟩) h6 ?_
    refine x_geti (ci := 0) (k := 2) dX5_readShared_4 hg.1 (by decide) (by decide) (by omega) fl_X5_135 rfl ?_
    rw [hp.2.2.2.2.1.1, show shM P.sh = 0 from by rw [hm]; rfl]
    refine w_if_eq (tgt := 16) dX5_readShared_7 (by decide) (fun c_7 => ?_) (fun c_7 => absurd (rfl) c_7)
    refine w_aload_n dX5_readShared_16 rfl ?_
    refine u_callV dX5_readShared_17 lk_X5_45 [] rfl (c_nextToken E l hR hN hr hb.2.2.2.1 ht.2.1) (g_recv.obj (ci := 5) rfl (by decide) (show 23 < N by omega)) rfl ⟨⟨by decide, by decide⟩, by decide, by decide⟩ (lb rfl) (fun I2 h_17 => ?_)
    obtain ⟨g1, g2⟩ := h_17
    refine w_aload_n dX5_readShared_20 rfl ?_
    refine w_bipush (v := 15) dX5_readShared_21 (by decide) ?_
    refine j_callV dX5_readShared_23 lk_X5_110 [.int (nI 15)] rfl (c_readAmounts E l hR hN (hr.fr g1) g2 hb.2.2.2.1 (most := 15) (by decide)) (g_recv.obj (ci := 5) rfl (by decide) (show 23 < N by omega)) rfl ⟨⟨by decide, by decide⟩, by decide, by decide⟩ (lb rfl) (fun x_23 I3 J3 h_23 => ?_)
    obtain ⟨a1, a2, a3⟩ := h_23
    have b1 := g1.r.trans a1
    generalize ham : amR tx L 15 9 (tkE tx L a) [] = M at hq a3
    refine w_if_ne (tgt := 31) dX5_readShared_26 (by decide) (fun c_26 => ?_) (fun c_26 => ?_)
    · refine w_aload_n dX5_readShared_31 rfl ?_
      rcases M with q | q
      · exact absurd a3.1 c_26
      have hok := amR_ok 9 _ [] q (by decide) rfl hb.2.2.2.1 (fun x hx => absurd hx List.not_mem_nil) ham
      have hsl := shM_lt (fun x hx => (hok.2.1 x hx).2)
      refine x_getr (ci := 5) (k := 6) (a := g) dX5_readShared_32 rfl (by decide) (by decide) (by omega) fl_X5_22 (Or.inl ⟨_, rfl⟩) h6 ?_
      refine w_aload_n dX5_readShared_35 rfl ?_
      refine x_getj (ci := 5) (k := 8) dX5_readShared_36 rfl (by decide) (by decide) (by omega) fl_X5_106 rfl ?_
      refine w_l2i dX5_readShared_39 ?_
      rw [shM_l a3.2.2.2 (fun x hx => (hok.2.1 x hx).2)]
      refine x_puti (ci := 0) (k := 2) dX5_readShared_40 hg.1 (by decide) (by decide) (by omega) fl_X5_135 rfl rfl ?_
      refine w_iconst (v := 1) dX5_readShared_43 (by decide) ?_
      refine w_iret dX5_readShared_44 rfl rfl ⟨_, _, _, rfl, (by rw [← hq]; exact ⟨(b1.q a2).trans (frQ.ste (Or.inr rfl) I3 J3 2 _ hgb), rfl, ⟨by rw [up2_n _ _ (by omega)]; exact a3.2.1.1, by rw [up2_n _ _ (by omega)]; exact a3.2.1.2.1, by rw [up2_n _ _ (by omega)]; exact a3.2.1.2.2⟩, (hp.r hgb b1 a2).shd (fun o _ _ c => by funext j; exact up2_n _ _ (by omega)) (up2_n _ _ (by omega)) (fun _ _ _ => rfl) (up2_n _ _ (by omega)) (up2_s ..) hsl⟩), rfl⟩ (by decide) (by decide)
    · obtain ⟨q, rfl⟩ : ∃ q, M = .inl q := (by rcases M with q | q; exact ⟨q, rfl⟩; exact absurd a3.1 (by rw [c_26]; decide))
      refine w_iconst (v := 0) dX5_readShared_29 (by decide) ?_
      refine w_iret dX5_readShared_30 rfl rfl ⟨_, _, _, rfl, (by rw [← hq]; exact ⟨b1.q a2, rfl, a3.2, hp.2.2.1.r hgb b1 a2⟩), rfl⟩ (by decide) (by decide)
  · rw [if_pos hm] at hq
    refine w_aload_n dX5_readShared_0 rfl ?_
    refine x_getr (ci := 5) (k := 6) (a := g) dX5_readShared_1 rfl (by decide) (by decide) (by omega) fl_X5_22 (Or.inl ⟨_, rfl⟩) h6 ?_
    refine x_geti (ci := 0) (k := 2) dX5_readShared_4 hg.1 (by decide) (by decide) (by omega) fl_X5_135 rfl ?_
    rw [hp.2.2.2.2.1.1]
    refine w_if_eq (tgt := 16) dX5_readShared_7 (by decide) (fun c_7 => absurd c_7 ((fun q => hm (shM_0 (n_eq (b := 0) q (by have := hp.2.2.2.2.1.2; omega) (by decide)))))) (fun c_7 => ?_)
    refine w_aload_n dX5_readShared_10 rfl ?_
    refine w_iconst (v := 2) dX5_readShared_11 (by decide) ?_
    refine y_callV dX5_readShared_12 lk_X5_55 [.int (nI 2)] rfl (c_fail E l hN ht 2) (g_recv.obj (ci := 5) rfl (by decide) (show 23 < N by omega)) rfl ⟨⟨by decide, by decide⟩, by decide, by decide⟩ (lb rfl) ?_
    refine w_iret dX5_readShared_15 rfl rfl ⟨_, _, _, rfl, (by rw [← hq]; exact rd_fail (frR.refl I) (fun _ _ _ => rfl) hp.2.2.1 hgb _ _), rfl⟩ (by decide) (by decide)
set_option maxRecDepth 100000 in
theorem c_readHeap (hR : R 23 0 = some 24) (h6 : R 23 6 = some g) (hg : isG R N g) (hgb : g = 1 ∨ g = 25) (hN : 24 < N) (hr : rdC I tx L) (ht : tkC I tx L a) (ha : a ≤ L) (hp : psC I J g P) : g_Ct E l mX5_readHeap 3 65 0 0 [.ref 23] (I, J, R, D, N, ex) (g_rj (fun x I' J' => rdP tx L g I J x I' J' (rdHe tx L a P)) R D N ex) := by
  refine g_Ct.of (by decide +kernel) (lb rfl) ?_
  have hL := hr.2.1
  have hb := tk_b (tx := tx) ha
  have hb2 := tk_b (tx := tx) hb.2.2.2.1
  have hb3 := tk_b (tx := tx) hb2.2.2.2.1
  have hgN : g + 22 ≤ N := hg.2.1
  have h4 : P.hs.length ≤ 4 := hp.2.2.2.2.2.2.2.1
  have h16 := hp.2.1
  generalize hq : rdHe tx L a P = Q
  unfold rdHe at hq
  have nmI : ∀ k, k < P.ru.length → J (g + 4 + 3 * k) 0 = lN (P.nm k) ∧ P.nm k < 2 ^ 64 := fun k hk => ⟨(hp.2.2.2.1 k hk).1, (hp.2.2.2.1 k hk).2.1⟩
  refine w_aload_n dX5_readHeap_0 rfl ?_
  refine x_getr (ci := 5) (k := 6) (a := g) dX5_readHeap_1 rfl (by decide) (by decide) (by omega) fl_X5_22 (Or.inl ⟨_, rfl⟩) h6 ?_
  refine x_getr (ci := 0) (k := 3) (a := g + 2) dX5_readHeap_4 hg.1 (by decide) (by decide) (by omega) fl_X5_117 (Or.inl ⟨_, rfl⟩) hg.2.2.2.2.1 ?_
  refine x_geti (ci := 4) (k := 0) dX5_readHeap_7 hg.2.2.2.2.2.1.1 (by decide) (by decide) (by omega) fl_X5_121 rfl ?_
  rw [hp.2.2.2.2.2.1.1]
  refine w_iconst (v := 4) dX5_readHeap_10 (by decide) ?_
  refine w_icmp_lt (tgt := 20) dX5_readHeap_11 (by decide) (fun c_11 => ?_) (fun c_11 => ?_)
  · have hl4 : P.hs.length < 4 := n_lt (a := P.hs.length) (b := 4) c_11
    rw [if_neg (by omega)] at hq
    refine w_aload_n dX5_readHeap_20 rfl ?_
    refine u_callV dX5_readHeap_21 lk_X5_45 [] rfl (c_nextToken E l hR hN hr hb.2.2.2.1 ht.2.1) (g_recv.obj (ci := 5) rfl (by decide) (show 23 < N by omega)) rfl ⟨⟨by decide, by decide⟩, by decide, by decide⟩ (lb rfl) (fun I2 h_21 => ?_)
    obtain ⟨g1, g2⟩ := h_21
    refine w_aload_n dX5_readHeap_24 rfl ?_
    refine y_callV dX5_readHeap_25 lk_X5_91 [] rfl (c_isName E l hN g2 hb.2.2.2.1 hL) (g_recv.obj (ci := 5) rfl (by decide) (show 23 < N by omega)) rfl ⟨⟨by decide, by decide⟩, by decide, by decide⟩ (lb rfl) ?_
    refine w_if_ne (tgt := 37) dX5_readHeap_28 (by decide) (fun c_28 => ?_) (fun c_28 => ?_)
    · have hu : isNm tx L (tkE tx L a) = true := b2i_ne.mp c_28
      rw [if_neg (by rw [hu]; decide)] at hq
      have p2 := hp.k hgb g1
      refine w_aload_n dX5_readHeap_37 rfl ?_
      refine x_getr (ci := 5) (k := 6) (a := g) dX5_readHeap_38 rfl (by decide) (by decide) (by omega) fl_X5_22 (Or.inl ⟨_, rfl⟩) h6 ?_
      refine w_aload_n dX5_readHeap_41 rfl ?_
      refine y_callV dX5_readHeap_42 lk_X5_94 [] rfl (c_nameOfToken E l hR hN (hr.fr g1) g2 hb.2.2.2.1 hu) (g_recv.obj (ci := 5) rfl (by decide) (show 23 < N by omega)) rfl ⟨⟨by decide, by decide⟩, by decide, by decide⟩ (lb rfl) ?_
      refine y_callV dX5_readHeap_45 lk_X5_98 [.long (lN (cdT tx L (tkE tx L a)))] rfl (c_ruleNamed E l hg p2.1 hp.2.1 nmI (cdT_lt hu)) (g_recv.obj (ci := 0) hg.1 (by decide) (show g < N by omega)) rfl ⟨⟨by decide, by decide⟩, by decide, by decide⟩ (lb rfl) ?_
      have efn : perF (fun k => decide (P.nm k = cdT tx L (tkE tx L a))) P.ru.length 0 = fnR P (cdT tx L (tkE tx L a)) := rfl
      rw [efn]
      generalize hfn : fnR P (cdT tx L (tkE tx L a)) = F at hq
      refine w_istore_n dX5_readHeap_48 (by decide) rfl ?_
      refine w_iload_n dX5_readHeap_49 rfl ?_
      refine w_iconst (v := (-1)) dX5_readHeap_50 (by decide) ?_
      refine w_icmp_ne (tgt := 60) dX5_readHeap_51 (by decide) (fun c_51 => ?_) (fun c_51 => ?_)
      · obtain ⟨rr, hF⟩ := o2i_some c_51
        subst hF
        have hrr := fnR_lt hfn
        refine w_aload_n dX5_readHeap_60 rfl ?_
        refine u_callV dX5_readHeap_61 lk_X5_45 [] rfl (c_nextToken E l hR hN (hr.fr g1) hb2.2.2.2.1 g2.2.1) (g_recv.obj (ci := 5) rfl (by decide) (show 23 < N by omega)) rfl ⟨⟨by decide, by decide⟩, by decide, by decide⟩ (lb rfl) (fun I3 h_61 => ?_)
        obtain ⟨g3, g4⟩ := h_61
        have f3 := g1.r.trans g3.r
        have p3 := p2.k hgb g3
        have r3 := (hr.fr g1).fr g3
        refine w_aload_n dX5_readHeap_64 rfl ?_
        refine y_callV dX5_readHeap_65 lk_X5_126 [] rfl (c_isNumber E l hN g4 hb2.2.2.2.1 hL) (g_recv.obj (ci := 5) rfl (by decide) (show 23 < N by omega)) rfl ⟨⟨by decide, by decide⟩, by decide, by decide⟩ (lb rfl) ?_
        refine w_if_ne (tgt := 77) dX5_readHeap_68 (by decide) (fun c_68 => ?_) (fun c_68 => ?_)
        · have hu3 : isNu tx L (tkE tx L (tkE tx L a)) = true := b2i_ne.mp c_68
          have hq1 := hq
          dsimp only at hq1
          rw [if_neg (by rw [hu3]; decide)] at hq1
          have hv := nmT_lt hu3
          refine w_aload_n dX5_readHeap_77 rfl ?_
          refine y_callV dX5_readHeap_78 lk_X5_129 [] rfl (c_numberOfToken E l hR hN r3 g4 hb2.2.2.2.1 hu3) (g_recv.obj (ci := 5) rfl (by decide) (show 23 < N by omega)) rfl ⟨⟨by decide, by decide⟩, by decide, by decide⟩ (lb rfl) ?_
          refine w_st (show _ = [.int (nI (nmT tx L (tkE tx L (tkE tx L a))))] from rfl) ?_
          refine w_istore_n dX5_readHeap_81 (by decide) rfl ?_
          refine w_iload_n dX5_readHeap_82 rfl ?_
          refine w_bipush (v := 15) dX5_readHeap_83 (by decide) ?_
          refine w_icmp_le (tgt := 94) dX5_readHeap_85 (by decide) (fun c_85 => ?_) (fun c_85 => ?_)
          · have hv3 := n_le (b := 15) c_85
            rw [if_neg (by omega)] at hq1
            refine w_aload_n dX5_readHeap_94 rfl ?_
            refine x_getr (ci := 5) (k := 6) (a := g) dX5_readHeap_95 rfl (by decide) (by decide) (by omega) fl_X5_22 (Or.inl ⟨_, rfl⟩) h6 ?_
            refine x_getr (ci := 0) (k := 3) (a := g + 2) dX5_readHeap_98 hg.1 (by decide) (by decide) (by omega) fl_X5_117 (Or.inl ⟨_, rfl⟩) hg.2.2.2.2.1 ?_
            refine w_iload_n dX5_readHeap_101 rfl ?_
            refine w_iload_n dX5_readHeap_102 rfl ?_
            refine v_callV dX5_readHeap_103 lk_X5_132 [.int (nI rr), .int (nI (nmT tx L (tkE tx L (tkE tx L a))))] rfl (c_addLast E l hg.2.2.2.2.2.1 (h := P.hs.length) p3.2.2.2.2.2.1.1 (nI rr) (nI (nmT tx L (tkE tx L (tkE tx L a))))) (g_recv.obj (ci := 4) hg.2.2.2.2.2.1.1 (by decide) (show g + 2 < N by omega)) rfl ⟨⟨by decide, by decide⟩, by decide, by decide⟩ (lb rfl) (fun x_103 I4 h_103 => ?_)
            obtain ⟨q1, q2, q3, q4, q5, q6, q7⟩ := h_103
            have f4 : frQ g I3 I4 J J := ⟨fun o _ b => q2 o (by omega), fun k _ _ _ _ _ => by rw [q2 23 (by omega)], fun _ _ _ => rfl⟩
            refine w_pop dX5_readHeap_106 rfl ?_
            refine w_aload_n dX5_readHeap_107 rfl ?_
            refine u_callV dX5_readHeap_108 lk_X5_45 [] rfl (c_nextToken E l hR hN (r3.q f4 hgb) hb3.2.2.2.1 (by rw [q2 23 (by omega)]; exact g4.2.1)) (g_recv.obj (ci := 5) rfl (by decide) (show 23 < N by omega)) rfl ⟨⟨by decide, by decide⟩, by decide, by decide⟩ (lb rfl) (fun I5 h_108 => ?_)
            obtain ⟨k1, k2⟩ := h_108
            have s3 := p3.2.2.2.2.2.1
            have hok := hp.2.2.2.2.2.2.2
            refine w_iconst (v := 1) dX5_readHeap_111 (by decide) ?_
            refine w_iret dX5_readHeap_112 rfl rfl ⟨_, _, _, rfl, (by rw [← hq1]; exact ⟨((f3.q (fun _ _ _ => rfl)).trans f4).trans k1.q, rfl, k2, psC.k (p3.ste (fun o c1 c2 c3 => q2 o c3) (by rw [q2 23 (by omega)]; exact p3.2.2.2.2.2.2.1) ⟨by rw [q3]; show _ = nI (P.hs ++ [_]).length; rw [List.length_append]; rfl, by rw [q4, s3.2.1]; exact (addL_1 hok h16 hrr hl4).trans (congrArg (fun x => nI (pk4 x)) (app_rs P.st rr _).symm), by rw [q5, s3.2.2.1]; exact (addL_2 hok hl4 hv3).trans (by show _ = nI (pk4 (St.zs (P.st.hs ++ [_], _, _, _)) + _); rw [app_zs]), by rw [q6]; exact s3.2.2.2.1, by rw [q7]; exact s3.2.2.2.2.1, fun i hi => absurd hi (Nat.not_lt_zero i)⟩ (addL_3 hok hrr hl4 hv3)) hgb k1⟩), rfl⟩ (by decide) (by decide)
          · rw [if_pos (n_nle (b := 15) c_85)] at hq1
            refine w_aload_n dX5_readHeap_88 rfl ?_
            refine w_iconst (v := 3) dX5_readHeap_89 (by decide) ?_
            refine y_callV dX5_readHeap_90 lk_X5_55 [.int (nI 3)] rfl (c_fail E l hN g4 3) (g_recv.obj (ci := 5) rfl (by decide) (show 23 < N by omega)) rfl ⟨⟨by decide, by decide⟩, by decide, by decide⟩ (lb rfl) ?_
            refine w_iret dX5_readHeap_93 rfl rfl ⟨_, _, _, rfl, (by rw [← hq1]; exact rd_fail f3 (fun _ _ _ => rfl) p3.2.2.1 hgb _ _), rfl⟩ (by decide) (by decide)
        · have hq1 := hq
          dsimp only at hq1
          rw [if_pos (b2i_0.mp c_68)] at hq1
          refine w_aload_n dX5_readHeap_71 rfl ?_
          refine w_iconst (v := 1) dX5_readHeap_72 (by decide) ?_
          refine y_callV dX5_readHeap_73 lk_X5_55 [.int (nI 1)] rfl (c_fail E l hN g4 1) (g_recv.obj (ci := 5) rfl (by decide) (show 23 < N by omega)) rfl ⟨⟨by decide, by decide⟩, by decide, by decide⟩ (lb rfl) ?_
          refine w_iret dX5_readHeap_76 rfl rfl ⟨_, _, _, rfl, (by rw [← hq1]; exact rd_fail f3 (fun _ _ _ => rfl) p3.2.2.1 hgb _ _), rfl⟩ (by decide) (by decide)
      · have hF : F = none := o2i_none c_51 (fun t ht => by have := fnR_lt (hfn.trans ht); omega)
        subst hF
        refine w_aload_n dX5_readHeap_54 rfl ?_
        refine w_iconst (v := 4) dX5_readHeap_55 (by decide) ?_
        refine y_callV dX5_readHeap_56 lk_X5_55 [.int (nI 4)] rfl (c_fail E l hN g2 4) (g_recv.obj (ci := 5) rfl (by decide) (show 23 < N by omega)) rfl ⟨⟨by decide, by decide⟩, by decide, by decide⟩ (lb rfl) ?_
        refine w_iret dX5_readHeap_59 rfl rfl ⟨_, _, _, rfl, (by rw [← hq]; exact rd_fail g1.r (fun _ _ _ => rfl) (hp.2.2.1.r hgb g1.r (fun _ _ _ => rfl)) hgb _ _), rfl⟩ (by decide) (by decide)
    · rw [if_pos (b2i_0.mp c_28)] at hq
      refine w_aload_n dX5_readHeap_31 rfl ?_
      refine w_iconst (v := 1) dX5_readHeap_32 (by decide) ?_
      refine y_callV dX5_readHeap_33 lk_X5_55 [.int (nI 1)] rfl (c_fail E l hN g2 1) (g_recv.obj (ci := 5) rfl (by decide) (show 23 < N by omega)) rfl ⟨⟨by decide, by decide⟩, by decide, by decide⟩ (lb rfl) ?_
      refine w_iret dX5_readHeap_36 rfl rfl ⟨_, _, _, rfl, (by rw [← hq]; exact rd_fail g1.r (fun _ _ _ => rfl) (hp.2.2.1.r hgb g1.r (fun _ _ _ => rfl)) hgb _ _), rfl⟩ (by decide) (by decide)
  · rw [if_pos (n_nlt (a := P.hs.length) (b := 4) c_11)] at hq
    refine w_aload_n dX5_readHeap_14 rfl ?_
    refine w_iconst (v := 5) dX5_readHeap_15 (by decide) ?_
    refine y_callV dX5_readHeap_16 lk_X5_55 [.int (nI 5)] rfl (c_fail E l hN ht 5) (g_recv.obj (ci := 5) rfl (by decide) (show 23 < N by omega)) rfl ⟨⟨by decide, by decide⟩, by decide, by decide⟩ (lb rfl) ?_
    refine w_iret dX5_readHeap_19 rfl rfl ⟨_, _, _, rfl, (by rw [← hq]; exact rd_fail (frR.refl I) (fun _ _ _ => rfl) hp.2.2.1 hgb _ _), rfl⟩ (by decide) (by decide)
set_option maxRecDepth 100000 in
theorem c_readRule (hR : R 23 0 = some 24) (h6 : R 23 6 = some g) (hg : isG R N g) (hgb : g = 1 ∨ g = 25) (hN : 24 < N) (hr : rdC I tx L) (ht : tkC I tx L a) (ha : a ≤ L) (hp : psC I J g P) : g_Ct E l mX5_readRule 6 127 0 0 [.ref 23] (I, J, R, D, N, ex) (g_rj (fun x I' J' => rdP tx L g I J x I' J' (rdRu tx L a P)) R D N ex) := by
  refine g_Ct.of (by decide +kernel) (lb rfl) ?_
  have hL := hr.2.1
  have hb := tk_b (tx := tx) ha
  have hb2 := tk_b (tx := tx) hb.2.2.2.1
  have hb3 := tk_b (tx := tx) hb2.2.2.2.1
  have hgN : g + 22 ≤ N := hg.2.1
  have h16 := hp.2.1
  generalize hq : rdRu tx L a P = Q
  unfold rdRu at hq
  have nmI : ∀ k, k < P.ru.length → J (g + 4 + 3 * k) 0 = lN (P.nm k) ∧ P.nm k < 2 ^ 64 := fun k hk => ⟨(hp.2.2.2.1 k hk).1, (hp.2.2.2.1 k hk).2.1⟩
  have fin : ∀ (I4 : Nat → Nat → Int32) (J4 : Nat → Nat → Int64) (al : List Nat) (kd e : Nat), isNm tx L (tkE tx L a) = true → P.ru.length < 6 → frR I I4 → frJ J J4 → tkC I4 tx L e → kd ≤ 4 → al.length ≤ 8 → seC J4 al → Q = .inr ((P.ru ++ [(cdT tx L (tkE tx L a), kd, al)], P.2), e) → g_Wp E l mX5_readRule { frames := 6, cells := 0, slots := 0, locals := 127 } (g_Fin E (g_rj (fun x I' J' => rdP tx L g I J x I' J' Q) R D N ex) 0 0) 0 0 102 [(3, .int (nI kd)), (1, .long (lN (cdT tx L (tkE tx L a)))), (0, .ref 23)] [] (I4, J4, R, D, N, ex) := by
    intro I4 J4 al kd e hu hl6 f1 f2 k2 hk hal hse hQ
    have p4 := hp.r hgb f1 f2
    have hrN : g + 4 + 3 * P.ru.length < N := by omega
    refine w_aload_n dX5_readRule_102 rfl ?_
    refine x_getr (ci := 5) (k := 6) (a := g) dX5_readRule_103 rfl (by decide) (by decide) (by omega) fl_X5_22 (Or.inl ⟨_, rfl⟩) h6 ?_
    refine w_lload_n dX5_readRule_106 rfl ?_
    refine w_iload_n dX5_readRule_107 rfl ?_
    refine w_aload_n dX5_readRule_108 rfl ?_
    refine x_getj (ci := 5) (k := 8) dX5_readRule_109 rfl (by decide) (by decide) (by omega) fl_X5_106 rfl ?_
    refine z_callV dX5_readRule_112 lk_X5_113 [.long (lN (cdT tx L (tkE tx L a))), .int (nI kd), .long (J4 23 8)] rfl (c_addRule E l hg p4.1 hl6 _ _ _) (g_recv.obj (ci := 0) hg.1 (by decide) (show g < N by omega)) rfl ⟨⟨by decide, by decide⟩, by decide, by decide⟩ (lb rfl) ?_
    refine w_iconst (v := 1) dX5_readRule_115 (by decide) ?_
    refine w_iret dX5_readRule_116 rfl rfl ⟨_, _, _, rfl, (by rw [hQ]; exact ⟨(f1.q f2).trans ⟨fun o _ b => by funext j; rw [up2_n _ _ (by omega), up2_n _ _ (by omega)], fun k _ _ _ _ _ => by rw [up2_n _ _ (by omega), up2_n _ _ (by omega)], fun o _ b => by funext j; rw [up2_n _ _ (by omega), up2_n _ _ (by omega)]⟩, rfl, ⟨by rw [up2_n _ _ (by omega), up2_n _ _ (by omega)]; exact k2.1, by rw [up2_n _ _ (by omega), up2_n _ _ (by omega)]; exact k2.2.1, by rw [up2_n _ _ (by omega), up2_n _ _ (by omega)]; exact k2.2.2⟩, p4.add hgb hl6 (cdT_lt hu) hk hal hse⟩), rfl⟩ (by decide) (by decide)
  refine w_aload_n dX5_readRule_0 rfl ?_
  refine x_getr (ci := 5) (k := 6) (a := g) dX5_readRule_1 rfl (by decide) (by decide) (by omega) fl_X5_22 (Or.inl ⟨_, rfl⟩) h6 ?_
  refine x_geti (ci := 0) (k := 1) dX5_readRule_4 hg.1 (by decide) (by decide) (by omega) fl_X5_88 rfl ?_
  rw [hp.1]
  refine w_bipush (v := 6) dX5_readRule_7 (by decide) ?_
  refine w_icmp_lt (tgt := 18) dX5_readRule_9 (by decide) (fun c_9 => ?_) (fun c_9 => ?_)
  · have hl6 : P.ru.length < 6 := n_lt (b := 6) c_9
    rw [if_neg (by omega)] at hq
    refine w_aload_n dX5_readRule_18 rfl ?_
    refine u_callV dX5_readRule_19 lk_X5_45 [] rfl (c_nextToken E l hR hN hr hb.2.2.2.1 ht.2.1) (g_recv.obj (ci := 5) rfl (by decide) (show 23 < N by omega)) rfl ⟨⟨by decide, by decide⟩, by decide, by decide⟩ (lb rfl) (fun I2 h_19 => ?_)
    obtain ⟨g1, g2⟩ := h_19
    refine w_aload_n dX5_readRule_22 rfl ?_
    refine y_callV dX5_readRule_23 lk_X5_91 [] rfl (c_isName E l hN g2 hb.2.2.2.1 hL) (g_recv.obj (ci := 5) rfl (by decide) (show 23 < N by omega)) rfl ⟨⟨by decide, by decide⟩, by decide, by decide⟩ (lb rfl) ?_
    refine w_if_ne (tgt := 35) dX5_readRule_26 (by decide) (fun c_26 => ?_) (fun c_26 => ?_)
    · have hu : isNm tx L (tkE tx L a) = true := b2i_ne.mp c_26
      rw [if_neg (by rw [hu]; decide)] at hq
      have p2 := hp.k hgb g1
      refine w_aload_n dX5_readRule_35 rfl ?_
      refine y_callV dX5_readRule_36 lk_X5_94 [] rfl (c_nameOfToken E l hR hN (hr.fr g1) g2 hb.2.2.2.1 hu) (g_recv.obj (ci := 5) rfl (by decide) (show 23 < N by omega)) rfl ⟨⟨by decide, by decide⟩, by decide, by decide⟩ (lb rfl) ?_
      refine w_lstore_n dX5_readRule_39 (by decide) rfl ?_
      refine w_aload_n dX5_readRule_40 rfl ?_
      refine x_getr (ci := 5) (k := 6) (a := g) dX5_readRule_41 rfl (by decide) (by decide) (by omega) fl_X5_22 (Or.inl ⟨_, rfl⟩) h6 ?_
      refine w_lload_n dX5_readRule_44 rfl ?_
      refine y_callV dX5_readRule_45 lk_X5_98 [.long (lN (cdT tx L (tkE tx L a)))] rfl (c_ruleNamed E l hg p2.1 hp.2.1 nmI (cdT_lt hu)) (g_recv.obj (ci := 0) hg.1 (by decide) (show g < N by omega)) rfl ⟨⟨by decide, by decide⟩, by decide, by decide⟩ (lb rfl) ?_
      have efn : perF (fun k => decide (P.nm k = cdT tx L (tkE tx L a))) P.ru.length 0 = fnR P (cdT tx L (tkE tx L a)) := rfl
      rw [efn]
      refine w_iconst (v := (-1)) dX5_readRule_48 (by decide) ?_
      refine w_icmp_eq (tgt := 58) dX5_readRule_49 (by decide) (fun c_49 => ?_) (fun c_49 => ?_)
      · rw [if_neg (fun q => q (o2i_none c_49 (fun t ht => by have := fnR_lt ht; omega)))] at hq
        refine w_aload_n dX5_readRule_58 rfl ?_
        refine u_callV dX5_readRule_59 lk_X5_45 [] rfl (c_nextToken E l hR hN (hr.fr g1) hb2.2.2.2.1 g2.2.1) (g_recv.obj (ci := 5) rfl (by decide) (show 23 < N by omega)) rfl ⟨⟨by decide, by decide⟩, by decide, by decide⟩ (lb rfl) (fun I3 h_59 => ?_)
        obtain ⟨g3, g4⟩ := h_59
        have f3 := g1.r.trans g3.r
        have p3 := p2.k hgb g3
        have r3 := (hr.fr g1).fr g3
        refine w_aload_n dX5_readRule_62 rfl ?_
        refine y_callV dX5_readRule_63 lk_X5_102 [] rfl (c_kindOfToken E l hR hN r3 g4 hb2.2.2.2.1) (g_recv.obj (ci := 5) rfl (by decide) (show 23 < N by omega)) rfl ⟨⟨by decide, by decide⟩, by decide, by decide⟩ (lb rfl) ?_
        refine w_istore_n dX5_readRule_66 (by decide) rfl ?_
        refine w_iload_n dX5_readRule_67 rfl ?_
        refine w_iconst (v := (-1)) dX5_readRule_68 (by decide) ?_
        refine w_icmp_ne (tgt := 78) dX5_readRule_69 (by decide) (fun c_69 => ?_) (fun c_69 => ?_)
        · rw [if_neg c_69] at hq
          obtain ⟨kk, hkk, ekd⟩ := (kd_le tx L (tkE tx L (tkE tx L a))).resolve_left c_69
          rw [ekd] at hq
          refine w_aload_n dX5_readRule_78 rfl ?_
          refine u_callV dX5_readRule_79 lk_X5_45 [] rfl (c_nextToken E l hR hN r3 hb3.2.2.2.1 g4.2.1) (g_recv.obj (ci := 5) rfl (by decide) (show 23 < N by omega)) rfl ⟨⟨by decide, by decide⟩, by decide, by decide⟩ (lb rfl) (fun I4 h_79 => ?_)
          obtain ⟨g5, g6⟩ := h_79
          have f5 := f3.trans g5.r
          have r5 := r3.fr g5
          refine w_aload_n dX5_readRule_82 rfl ?_
          refine w_lconst (v := 0) dX5_readRule_83 (by decide) ?_
          refine x_putj (ci := 5) (k := 8) dX5_readRule_84 rfl (by decide) (by decide) (by omega) fl_X5_106 rfl rfl ?_
          refine w_iload_n dX5_readRule_87 rfl ?_
          rw [ekd]
          refine w_if_ne (tgt := 102) dX5_readRule_88 (by decide) (fun c_88 => ?_) (fun c_88 => ?_)
          · first | (rw [if_neg c_88, nI_toInt (show kk < 2 ^ 31 by omega), Int.toNat_natCast] at hq; exact w_lv [3, 1, 0] (fin I4 _ [] kk _ hu hl6 f5 (fun o k q => up2_n _ _ q) g6 hkk (by decide) (fun v hv => by rw [up2_s, lbit_0]; rfl) hq.symm)) | (rcases M with q | q; exact absurd a3.1 c_97; have hok := amR_ok 9 _ [] q (by decide) rfl hb3.2.2.2.1 (fun x hx => absurd hx List.not_mem_nil) ham; exact w_lv [3, 1, 0] (fin I5 J5 q.1 0 q.2 hu hl6 b1 b2 a3.2.1 (by decide) hok.1.2 a3.2.2.2 hq.symm))
          · refine w_aload_n dX5_readRule_91 rfl ?_
            refine w_bipush (v := 60) dX5_readRule_92 (by decide) ?_
            refine j_callV dX5_readRule_94 lk_X5_110 [.int (nI 60)] rfl (c_readAmounts E l hR hN r5 g6 hb3.2.2.2.1 (most := 60) (by decide)) (g_recv.obj (ci := 5) rfl (by decide) (show 23 < N by omega)) rfl ⟨⟨by decide, by decide⟩, by decide, by decide⟩ (lb rfl) (fun x_94 I5 J5 h_94 => ?_)
            obtain ⟨a1, a2, a3⟩ := h_94
            have b1 := f5.trans a1
            have b2 : frJ J J5 := (fun o k q => (a2 o k q).trans (up2_n _ _ q))
            have k0 : kk = 0 := n_eq (b := 0) c_88
            subst k0
            rw [if_pos (show nI 0 = 0 from rfl)] at hq
            generalize ham : amR tx L 60 9 (tkE tx L (tkE tx L (tkE tx L a))) [] = M at hq a3
            refine w_if_ne (tgt := 102) dX5_readRule_97 (by decide) (fun c_97 => ?_) (fun c_97 => ?_)
            · first | (rw [if_neg c_88, nI_toInt (show kk < 2 ^ 31 by omega), Int.toNat_natCast] at hq; exact w_lv [3, 1, 0] (fin I4 _ [] kk _ hu hl6 f5 (fun o k q => up2_n _ _ q) g6 hkk (by decide) (fun v hv => by rw [up2_s, lbit_0]; rfl) hq.symm)) | (rcases M with q | q; exact absurd a3.1 c_97; have hok := amR_ok 9 _ [] q (by decide) rfl hb3.2.2.2.1 (fun x hx => absurd hx List.not_mem_nil) ham; exact w_lv [3, 1, 0] (fin I5 J5 q.1 0 q.2 hu hl6 b1 b2 a3.2.1 (by decide) hok.1.2 a3.2.2.2 hq.symm))
            · obtain ⟨q, rfl⟩ : ∃ q, M = .inl q := (by rcases M with q | q; exact ⟨q, rfl⟩; exact absurd a3.1 (by rw [c_97]; decide))
              refine w_iconst (v := 0) dX5_readRule_100 (by decide) ?_
              refine w_iret dX5_readRule_101 rfl rfl ⟨_, _, _, rfl, (by rw [← hq]; exact ⟨b1.q b2, rfl, a3.2, hp.2.2.1.r hgb b1 b2⟩), rfl⟩ (by decide) (by decide)
        · rw [if_pos c_69] at hq
          refine w_aload_n dX5_readRule_72 rfl ?_
          refine w_iconst (v := 1) dX5_readRule_73 (by decide) ?_
          refine y_callV dX5_readRule_74 lk_X5_55 [.int (nI 1)] rfl (c_fail E l hN g4 1) (g_recv.obj (ci := 5) rfl (by decide) (show 23 < N by omega)) rfl ⟨⟨by decide, by decide⟩, by decide, by decide⟩ (lb rfl) ?_
          refine w_iret dX5_readRule_77 rfl rfl ⟨_, _, _, rfl, (by rw [← hq]; exact rd_fail f3 (fun _ _ _ => rfl) p3.2.2.1 hgb _ _), rfl⟩ (by decide) (by decide)
      · rw [if_pos (fun q => c_49 (by rw [q]; rfl))] at hq
        refine w_aload_n dX5_readRule_52 rfl ?_
        refine w_iconst (v := 2) dX5_readRule_53 (by decide) ?_
        refine y_callV dX5_readRule_54 lk_X5_55 [.int (nI 2)] rfl (c_fail E l hN g2 2) (g_recv.obj (ci := 5) rfl (by decide) (show 23 < N by omega)) rfl ⟨⟨by decide, by decide⟩, by decide, by decide⟩ (lb rfl) ?_
        refine w_iret dX5_readRule_57 rfl rfl ⟨_, _, _, rfl, (by rw [← hq]; exact rd_fail g1.r (fun _ _ _ => rfl) (hp.2.2.1.r hgb g1.r (fun _ _ _ => rfl)) hgb _ _), rfl⟩ (by decide) (by decide)
    · rw [if_pos (b2i_0.mp c_26)] at hq
      refine w_aload_n dX5_readRule_29 rfl ?_
      refine w_iconst (v := 1) dX5_readRule_30 (by decide) ?_
      refine y_callV dX5_readRule_31 lk_X5_55 [.int (nI 1)] rfl (c_fail E l hN g2 1) (g_recv.obj (ci := 5) rfl (by decide) (show 23 < N by omega)) rfl ⟨⟨by decide, by decide⟩, by decide, by decide⟩ (lb rfl) ?_
      refine w_iret dX5_readRule_34 rfl rfl ⟨_, _, _, rfl, (by rw [← hq]; exact rd_fail g1.r (fun _ _ _ => rfl) (hp.2.2.1.r hgb g1.r (fun _ _ _ => rfl)) hgb _ _), rfl⟩ (by decide) (by decide)
  · rw [if_pos (n_nlt (b := 6) c_9)] at hq
    refine w_aload_n dX5_readRule_12 rfl ?_
    refine w_iconst (v := 5) dX5_readRule_13 (by decide) ?_
    refine y_callV dX5_readRule_14 lk_X5_55 [.int (nI 5)] rfl (c_fail E l hN ht 5) (g_recv.obj (ci := 5) rfl (by decide) (show 23 < N by omega)) rfl ⟨⟨by decide, by decide⟩, by decide, by decide⟩ (lb rfl) ?_
    refine w_iret dX5_readRule_17 rfl rfl ⟨_, _, _, rfl, (by rw [← hq]; exact rd_fail (frR.refl I) (fun _ _ _ => rfl) hp.2.2.1 hgb _ _), rfl⟩ (by decide) (by decide)
end RS
