/-! HeapGames$TextReader: what the draft holds -/
def psC (I : Nat → Nat → Int32) (J : Nat → Nat → Int64) (g : Nat) (P : PS) : Prop := I g 1 = nI P.ru.length ∧ P.ru.length ≤ 6 ∧ drC I J g ∧ (∀ k (h : k < P.ru.length), J (g + 4 + 3 * k) 0 = lN (P.nm k) ∧ P.nm k < 2 ^ 64 ∧ I (g + 4 + 3 * k) 1 = nI (P.ru[k].2.1) ∧ ∀ v, v < 64 → lbit (J (g + 4 + 3 * k) 2) v = decide (v ∈ P.ru[k].2.2)) ∧ (I g 2 = nI (shM P.sh) ∧ shM P.sh < 65536) ∧ stC I (g + 2) P.st ∧ I 23 7 = b2i P.hp ∧ stOK P.ru.length P.st
def frQ (g : Nat) (I I' : Nat → Nat → Int32) (J J' : Nat → Nat → Int64) : Prop := (∀ o, o ≠ 23 → (o < g ∨ g + 22 ≤ o) → I' o = I o) ∧ (∀ k, k ≠ 3 → k ≠ 4 → k ≠ 5 → k ≠ 7 → k ≠ 9 → I' 23 k = I 23 k) ∧ ∀ o, o ≠ 23 → (o < g ∨ g + 22 ≤ o) → J' o = J o
def rdP (tx : Nat → Nat) (L g : Nat) (I : Nat → Nat → Int32) (J : Nat → Nat → Int64) (x : Int32) (I' : Nat → Nat → Int32) (J' : Nat → Nat → Int64) (r : RdO) : Prop := frQ g I I' J J' ∧ match r with
  | .inl q => x = 0 ∧ I' 23 9 = flS q.1 q.2 ∧ drC I' J' g
  | .inr q => x = 1 ∧ tkC I' tx L q.2 ∧ psC I' J' g q.1
theorem frQ.refl (g : Nat) (I : Nat → Nat → Int32) (J : Nat → Nat → Int64) : frQ g I I J J := ⟨fun _ _ _ => rfl, fun _ _ _ _ _ _ => rfl, fun _ _ _ => rfl⟩
theorem frQ.trans {g : Nat} {I I' I'' : Nat → Nat → Int32} {J J' J'' : Nat → Nat → Int64} (h : frQ g I I' J J') (h' : frQ g I' I'' J' J'') : frQ g I I'' J J'' := ⟨fun o a b => (h'.1 o a b).trans (h.1 o a b), fun k a b c d e => (h'.2.1 k a b c d e).trans (h.2.1 k a b c d e), fun o a b => (h'.2.2 o a b).trans (h.2.2 o a b)⟩
theorem frR.q {g : Nat} {I I' : Nat → Nat → Int32} {J J' : Nat → Nat → Int64} (h : frR I I') (h' : frJ J J') : frQ g I I' J J' := ⟨fun o a _ => h.1 o a, fun k a b c _ e => h.2 k a b c e, fun o a _ => by funext k; exact h' o k (fun q => a q.1)⟩
theorem frK.q {g : Nat} {I I' : Nat → Nat → Int32} {J : Nat → Nat → Int64} (h : frK I I') : frQ g I I' J J := h.r.q (fun _ _ _ => rfl)
theorem drC.fr {I I' : Nat → Nat → Int32} {J J' : Nat → Nat → Int64} {g : Nat} (h : drC I J g) (f : ∀ o, g ≤ o → o < g + 22 → I' o = I o) (f' : ∀ o, g ≤ o → o < g + 22 → J' o = J o) : drC I' J' g := fun k hk => by
  rw [f _ (by omega) (by omega), f' _ (by omega) (by omega)]; exact h k hk
theorem psC.fr {I I' : Nat → Nat → Int32} {J J' : Nat → Nat → Int64} {g : Nat} {P : PS} (h : psC I J g P) (f : ∀ o, g ≤ o → o < g + 22 → I' o = I o) (f' : ∀ o, g ≤ o → o < g + 22 → J' o = J o) (h7 : I' 23 7 = I 23 7) : psC I' J' g P := by
  obtain ⟨h1, h2, h3, h4, h5, h6, h8, h9⟩ := h
  refine ⟨by rw [f _ (by omega) (by omega)]; exact h1, h2, h3.fr f f', fun k hk => ?_, by rw [f _ (by omega) (by omega)]; exact h5, h6.fr (f _ (by omega) (by omega)) (f _ (by omega) (by omega)), by rw [h7]; exact h8, h9⟩
  rw [f _ (by omega) (by omega), f' _ (by omega) (by omega)]; exact h4 k hk
theorem gd_23 {g : Nat} (hg : g = 1 ∨ g = 25) {o : Nat} (h1 : g ≤ o) (h2 : o < g + 22) : o ≠ 23 ∧ o ≠ 24 := by omega
theorem psC.r {I I' : Nat → Nat → Int32} {J J' : Nat → Nat → Int64} {g : Nat} {P : PS} (h : psC I J g P) (hg : g = 1 ∨ g = 25) (f : frR I I') (f' : frJ J J') : psC I' J' g P := h.fr (fun o a b => f.1 o (gd_23 hg a b).1) (fun o a b => by funext k; exact f' o k (fun q => (gd_23 hg a b).1 q.1)) (f.2 7 (by decide) (by decide) (by decide) (by decide))
theorem psC.k {I I' : Nat → Nat → Int32} {J : Nat → Nat → Int64} {g : Nat} {P : PS} (h : psC I J g P) (hg : g = 1 ∨ g = 25) (f : frK I I') : psC I' J g P := h.r hg f.r (fun _ _ _ => rfl)
theorem drC.r {I I' : Nat → Nat → Int32} {J J' : Nat → Nat → Int64} {g : Nat} (h : drC I J g) (hg : g = 1 ∨ g = 25) (f : frR I I') (f' : frJ J J') : drC I' J' g := h.fr (fun o a b => f.1 o (gd_23 hg a b).1) (fun o a b => by funext k; exact f' o k (fun q => (gd_23 hg a b).1 q.1))
theorem frR.fl (I : Nat → Nat → Int32) (v : Int32) : frR I (up2 I 23 9 v) := (frR.refl I).fail v
theorem rd_fail {tx : Nat → Nat} {L g : Nat} {I I' : Nat → Nat → Int32} {J J' : Nat → Nat → Int64} (f : frR I I') (f' : frJ J J') (hd : drC I' J' g) (hg : g = 1 ∨ g = 25) (s k : Nat) : rdP tx L g I J (b2i false) (up2 I' 23 9 (flS s k)) J' (.inl (s, k)) := ⟨(f.fail _).q f', rfl, up2_s .., hd.r hg (frR.fl _ _) (fun _ _ _ => rfl)⟩
theorem PS.nm_e (P : PS) {k : Nat} (h : k < P.ru.length) : P.nm k = (P.ru[k]).1 := by unfold PS.nm; rw [List.getD_eq_getElem?_getD, List.getElem?_eq_getElem h]; rfl
theorem psC.add {I : Nat → Nat → Int32} {J : Nat → Nat → Int64} {g : Nat} {P : PS} (h : psC I J g P) (hg : g = 1 ∨ g = 25) (h6 : P.ru.length < 6) {c kd : Nat} {al : List Nat} (hc : c < 2 ^ 64) (hkd : kd ≤ 4) (hal : al.length ≤ 8) {y : Int64} (hy : ∀ v, v < 64 → lbit y v = decide (v ∈ al)) : psC (up2 (up2 I (g + 4 + 3 * P.ru.length) 1 (nI kd)) g 1 (nI (P.ru.length + 1))) (up2 (up2 J (g + 4 + 3 * P.ru.length) 0 (lN c)) (g + 4 + 3 * P.ru.length) 2 y) g (P.ru ++ [(c, kd, al)], P.2) := by
  obtain ⟨h1, h2, h3, h4, h5, h6', h8, h9⟩ := h
  have hlen : (P.ru ++ [(c, kd, al)]).length = P.ru.length + 1 := by rw [List.length_append]; rfl
  have eI : ∀ k, k ≠ P.ru.length → ∀ j, (up2 (up2 I (g + 4 + 3 * P.ru.length) 1 (nI kd)) g 1 (nI (P.ru.length + 1))) (g + 4 + 3 * k) j = I (g + 4 + 3 * k) j := fun k hk j => by rw [up2_n _ _ (by omega), up2_n _ _ (by omega)]
  have eJ : ∀ k, k ≠ P.ru.length → ∀ j, (up2 (up2 J (g + 4 + 3 * P.ru.length) 0 (lN c)) (g + 4 + 3 * P.ru.length) 2 y) (g + 4 + 3 * k) j = J (g + 4 + 3 * k) j := fun k hk j => by rw [up2_n _ _ (by omega), up2_n _ _ (by omega)]
  have eI1 : (up2 (up2 I (g + 4 + 3 * P.ru.length) 1 (nI kd)) g 1 (nI (P.ru.length + 1))) (g + 4 + 3 * P.ru.length) 1 = nI kd := by rw [up2_n _ _ (by omega), up2_s]
  have eJ0 : (up2 (up2 J (g + 4 + 3 * P.ru.length) 0 (lN c)) (g + 4 + 3 * P.ru.length) 2 y) (g + 4 + 3 * P.ru.length) 0 = lN c := by rw [up2_n _ _ (by simp), up2_s]
  have eJ2 : (up2 (up2 J (g + 4 + 3 * P.ru.length) 0 (lN c)) (g + 4 + 3 * P.ru.length) 2 y) (g + 4 + 3 * P.ru.length) 2 = y := up2_s ..
  refine ⟨by rw [up2_s]; exact congrArg nI hlen.symm, by show (P.ru ++ [(c, kd, al)]).length ≤ 6; omega, fun k hk => ?_, fun k hk => ?_, ?_, ?_, ?_, ?_⟩
  · by_cases e : k = P.ru.length
    · subst e
      rw [eI1, eJ2]
      refine ⟨⟨kd, hkd, rfl⟩, Nat.le_trans (amt_al al _ (fun a a1 a2 a3 => ?_)) hal⟩
      rw [clS_lb, hy a (by omega)] at a3
      simp at a3
      exact a3.2
    · rw [eI k e, eJ k e]; exact h3 k hk
  · have hk' : k < P.ru.length + 1 := by rw [← hlen]; exact hk
    by_cases e : k = P.ru.length
    · subst e
      have e9 : (P.ru ++ [(c, kd, al)])[P.ru.length]'hk = (c, kd, al) := by rw [List.getElem_append_right (by omega)]; simp
      have e8 : PS.nm (P.ru ++ [(c, kd, al)], P.2) P.ru.length = c := by rw [PS.nm_e _ hk]; exact congrArg Prod.fst e9
      rw [e8, eI1, eJ0, eJ2]
      refine ⟨rfl, hc, ?_, ?_⟩
      · show nI kd = nI ((P.ru ++ [(c, kd, al)])[P.ru.length]'hk).2.1; rw [e9]
      · intro v hv; show lbit y v = decide (v ∈ ((P.ru ++ [(c, kd, al)])[P.ru.length]'hk).2.2); rw [e9]; exact hy v hv
    · have hkn : k < P.ru.length := by omega
      have e9 : (P.ru ++ [(c, kd, al)])[k]'hk = P.ru[k] := List.getElem_append_left hkn
      have e8 : PS.nm (P.ru ++ [(c, kd, al)], P.2) k = P.nm k := by rw [PS.nm_e _ hk, PS.nm_e _ hkn]; exact congrArg Prod.fst e9
      have t := h4 k (by omega)
      rw [e8, eI k e, eJ k e, eJ k e]
      refine ⟨t.1, t.2.1, t.2.2.1.trans ?_, fun v hv => (t.2.2.2 v hv).trans ?_⟩
      · show _ = nI ((P.ru ++ [(c, kd, al)])[k]'hk).2.1; rw [e9]
      · show _ = decide (v ∈ ((P.ru ++ [(c, kd, al)])[k]'hk).2.2); rw [e9]
  · rw [up2_n _ _ (by omega), up2_n _ _ (by omega)]; exact h5
  · exact h6'.fr (by funext j; rw [up2_n _ _ (by omega), up2_n _ _ (by omega)]) (by funext j; rw [up2_n _ _ (by omega), up2_n _ _ (by omega)])
  · rw [up2_n _ _ (by omega), up2_n _ _ (by omega)]; exact h8
  · exact ⟨h9.1, fun x hx => ⟨by have := (h9.2.1 x hx).1; show x.1 < (P.ru ++ [(c, kd, al)]).length; omega, (h9.2.1 x hx).2⟩, h9.2.2⟩
