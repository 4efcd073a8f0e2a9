/-! HeapGames: snapshots, append, checksum -/
theorem rC.txt {I I' : Nat → Nat → Int32} {J : Nat → Nat → Int64} {sw : Bool} {A : AS} {n : Nat} (h : rC I J sw A n) (f : ∀ o, o ≠ 23 → o ≠ 24 → I' o = I o) {tx : Nat → Nat} {tl : Nat} (ht : txC I' tx tl) : rC I' J sw (A.ru, A.nr, A.st, A.hi, A.sn, tx, tl) n := by
  have hg := gm_b sw
  have hd := dg_b sw
  obtain ⟨h1, h2, h3, h4, h5, h6, h7, h8, h9, h10, h11⟩ := h
  have e : ∀ o, o ≠ 23 → o ≠ 24 → I' o = I o := f
  have hk6 : A.nr ≤ 6 := h1.2
  refine ⟨⟨by rw [e _ (by omega) (by omega)]; exact h1.1, h1.2⟩, h2, ⟨by rw [e _ (by omega) (by omega)]; exact h3.1, fun k hk => ?_⟩, fun k hk m hm => ?_, h5, h6.fr (e _ (by omega) (by omega)) (e _ (by omega) (by omega)), fun k hk => ?_, ?_, h9.fr (fun o a b => e o (by omega) (by omega)), fun k hk => ?_, ht⟩
  · rw [e _ (by omega) (by omega)]; exact h3.2 k hk
  · have hk' : k < A.nr := hk
    rw [e _ (by omega) (by omega)]; exact h4 k hk m hm
  · rw [e _ (by omega) (by omega)]; exact h7 k hk
  · obtain ⟨st, T, q1, q2, q3, q4⟩ := h8
    have e47 := e 47 (by omega) (by omega)
    have e48 := e 48 (by omega) (by omega)
    have e49 := e 49 (by omega) (by omega)
    refine ⟨st, T, q1, by rw [e47]; exact q2, fun p hp => by rw [e48]; exact q3 p hp, ?_⟩
    rcases q4 with q4 | ⟨rs, mi, r1, r2, r3, r4⟩
    · exact Or.inl (by rw [e47]; exact q4)
    · refine Or.inr ⟨rs, mi, r1, by rw [e47]; exact r2, ?_, ?_⟩
      · obtain ⟨s1, ⟨t, s2, s3⟩, s4, s5⟩ := r3
        exact ⟨by rw [e47]; exact s1, ⟨t, by rw [e47]; exact s2, s3⟩, by rw [e47]; exact s4, fun h hh n hn => by rw [e49]; exact s5 h hh n hn⟩
      · obtain ⟨⟨s1, s2, s3, s4⟩, s5⟩ := r4
        exact ⟨⟨by rw [e47]; exact s1, s2, s3, fun p hp => by rw [e48]; exact s4 p hp⟩, s5⟩
  · rw [e 74 (by omega) (by omega)]
    exact ⟨(h10 k hk).1, fun s hs => ⟨((h10 k hk).2 s hs).1, ((h10 k hk).2 s hs).2.fr (e _ (by omega) (by omega)) (e _ (by omega) (by omega))⟩⟩
def AS.sav (A : AS) (k : Nat) : AS := (A.ru, A.nr, A.st, A.hi, (fun j => if j = k then some A.st else A.sn j), A.tx, A.tl)
theorem rC.snp {I I' : Nat → Nat → Int32} {J : Nat → Nat → Int64} {sw : Bool} {A : AS} {n : Nat} (h : rC I J sw A n) (f : ∀ o, o < 74 ∨ 78 < o → I' o = I o) {sn : Nat → Option St} (ht : snC I' A.nr sn) : rC I' J sw (A.ru, A.nr, A.st, A.hi, sn, A.tx, A.tl) n := by
  have hg := gm_b sw
  have hd := dg_b sw
  obtain ⟨h1, h2, h3, h4, h5, h6, h7, h8, h9, h10, h11⟩ := h
  have e : ∀ o, o < 74 → I' o = I o := fun o ho => f o (Or.inl ho)
  have hk6 : A.nr ≤ 6 := h1.2
  refine ⟨⟨by rw [e _ (by omega)]; exact h1.1, h1.2⟩, h2, ⟨by rw [e _ (by omega)]; exact h3.1, fun k hk => ?_⟩, fun k hk m hm => ?_, h5, h6.fr (e _ (by omega)) (e _ (by omega)), fun k hk => ?_, ?_, h9.fr (fun o a b => e o (by omega)), ht, ?_⟩
  · rw [e _ (by omega)]; exact h3.2 k hk
  · have hk' : k < A.nr := hk
    rw [e _ (by omega)]; exact h4 k hk m hm
  · rw [e _ (by omega)]; exact h7 k hk
  · obtain ⟨st, T, q1, q2, q3, q4⟩ := h8
    have e47 := e 47 (by omega)
    have e48 := e 48 (by omega)
    have e49 := e 49 (by omega)
    refine ⟨st, T, q1, by rw [e47]; exact q2, fun p hp => by rw [e48]; exact q3 p hp, ?_⟩
    rcases q4 with q4 | ⟨rs, mi, r1, r2, r3, r4⟩
    · exact Or.inl (by rw [e47]; exact q4)
    · refine Or.inr ⟨rs, mi, r1, by rw [e47]; exact r2, ?_, ?_⟩
      · obtain ⟨s1, ⟨t, s2, s3⟩, s4, s5⟩ := r3
        exact ⟨by rw [e47]; exact s1, ⟨t, by rw [e47]; exact s2, s3⟩, by rw [e47]; exact s4, fun h hh n hn => by rw [e49]; exact s5 h hh n hn⟩
      · obtain ⟨⟨s1, s2, s3, s4⟩, s5⟩ := r4
        exact ⟨⟨by rw [e47]; exact s1, s2, s3, fun p hp => by rw [e48]; exact s4 p hp⟩, s5⟩
  · unfold txC
    rw [e 23 (by omega), e 24 (by omega)]
    exact h11
section FO
variable (E : GE) (l : Launch)
variable {I : Nat → Nat → Int32} {J : Nat → Nat → Int64} {R : Nat → Nat → Option Nat} {D : Nat → Nat → UInt64} {N : Nat} {ex : Bool} {sw : Bool} {A : AS} {n s : Nat}
theorem lk_sn (hl : lk R N sw) {k : Nat} (hk : k < 2) : R 73 k = some (75 + 2 * k) ∧ isS R N (75 + 2 * k) := by
  obtain ⟨_, _, _, _, _, _, _, _, _, _, _, _, h1, h2, h3, h4, _⟩ := hl
  rcases (show k = 0 ∨ k = 1 by omega) with rfl | rfl
  · exact ⟨h1, h3⟩
  · exact ⟨h2, h4⟩
set_option maxRecDepth 100000 in
theorem c_h_clear (hN : 51 < N) : g_Ct E l mX1_clear 0 0 0 0 [.ref 51] (I, J, R, D, N, ex) (g_is none (up2 I 51 2 0, J, R, D, N, ex)) := by
  refine g_Ct.of (by decide +kernel) (lb rfl) ?_
  refine w_aload_n dX1_clear_0 rfl ?_
  refine w_iconst (v := 0) dX1_clear_1 (by decide) ?_
  refine x_puti (ci := 1) (k := 2) dX1_clear_2 rfl (by decide) (by decide) hN fl_X1_21 rfl rfl ?_
  refine w_vret dX1_clear_5 rfl ⟨rfl, rfl⟩ (by decide) (by decide)
end FO
