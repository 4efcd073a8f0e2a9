/-! HeapGamesModel: what the table tells -/
theorem g_Ct.mono {E : GE} {l : Launch} {μ : GM} {f q mc ms : Nat} {as : List Value} {w : GW} {Z Z' : GZ} (h : g_Ct E l μ f q mc ms as w Z) (hz : ∀ o w', Z o w' → Z' o w') : g_Ct E l μ f q mc ms as w Z' := by
  refine MetFree.mono h (fun _ _ h => h) (fun _ _ _ _ _ h => h) (fun a st o t _ hq => ?_)
  rcases hq with ⟨⟨v, w1, e1, z1, r1⟩, F⟩ | ⟨q, e, X, ce, L, ⟨w1, z1, r1⟩, rest⟩
  · exact Or.inl ⟨⟨v, w1, e1, hz _ _ z1, r1⟩, F⟩
  · exact Or.inr ⟨q, e, X, ce, L, ⟨w1, hz _ _ z1, r1⟩, rest⟩
def frO (I I' : Nat → Nat → Int32) : Prop := (∀ o, o < 79 → I' o = I o) ∧ I' 79 17 = I 79 17
theorem frO.refl (I : Nat → Nat → Int32) : frO I I := ⟨fun _ _ => rfl, rfl⟩
theorem frO.trans {I I' I'' : Nat → Nat → Int32} (h : frO I I') (h' : frO I' I'') : frO I I'' := ⟨fun o a => (h'.1 o a).trans (h.1 o a), h'.2.trans h.2⟩
theorem frZ.o {I I' : Nat → Nat → Int32} (h : frZ I I') : frO I I' := ⟨fun o a => h.1 o (by omega), h.2 17 (by decide)⟩
theorem frL2.o {I I' : Nat → Nat → Int32} (h : frL2 I I') : frO I I' := ⟨fun o a => h.1 o (by omega) (by omega) (by omega) (by omega), h.2 17 (by decide) (by decide)⟩
theorem frO.thr {I I' : Nat → Nat → Int32} {v : Int32} (h : frO (up2 I 79 17 v) I') : (∀ o, o < 79 → I' o = I o) ∧ I' 79 17 = v := ⟨fun o a => by rw [h.1 o a]; funext j; exact up2_n _ _ (by omega), by rw [h.2, up2_s]⟩
def tbA (I : Nat → Nat → Int32) (A : AS) : Prop := tbM I A.cf (4 * 16 ^ A.st.hs.length)
theorem tbA.z {I I' : Nat → Nat → Int32} {A : AS} (h : tbA I A) (f : frZ I I') : tbA I' A := by unfold tbA tbM; rw [f.1 98 (by decide)]; exact h
theorem rM.l {I I' : Nat → Nat → Int32} {A : AS} {c c' : Nat} (h : rM I A c) (f : frL2 I I') (hr : roM I' c') (hy : lyM I' A.ru A.nr) : rM I' A c' := by
  obtain ⟨h1, h2, h3, h4, h5, h6, h7, h8⟩ := h
  have g : ∀ o, o ≠ 79 → o ≠ 94 → o ≠ 98 → o ≠ 99 → I' o = I o := f.1
  exact ⟨h1.fr (g _ (by decide) (by decide) (by decide) (by decide)), h2.fr (g _ (by decide) (by decide) (by decide) (by decide)) (f.2 _ (by decide) (by decide)), h3.fr (g _ (by decide) (by decide) (by decide) (by decide)) (g _ (by decide) (by decide) (by decide) (by decide)), h4.fr (fun o a b => g o (by omega) (by omega) (by omega) (by omega)) (f.2 _ (by decide) (by decide)) (f.2 _ (by decide) (by decide)), h5.fr (g _ (by decide) (by decide) (by decide) (by decide)) (g _ (by decide) (by decide) (by decide) (by decide)), h6.fr (g _ (by decide) (by decide) (by decide) (by decide)) (f.2 _ (by decide) (by decide)), hr, hy⟩
theorem rM.up {I : Nat → Nat → Int32} {A : AS} {c d : Nat} (h : rM I A c) (hd : c ≤ d) : rM I A d := ⟨h.1, h.2.1, h.2.2.1, h.2.2.2.1, h.2.2.2.2.1, h.2.2.2.2.2.1, h.2.2.2.2.2.2.1.up hd, h.2.2.2.2.2.2.2⟩
theorem rM.cn {I : Nat → Nat → Int32} {A : AS} {c : Nat} (h : rM I A c) (hA : aOK A) : cnM I A.nr A.st.rs A.st.mi := by
  refine ⟨by rw [St.rs_len]; exact h.1.1, by rw [St.rs_len]; exact hA.2.2.1.1, fun x hx => ?_, hA.1, fun k hk => ?_, h.1.2.2.2.1⟩
  · obtain ⟨y, hy, rfl⟩ := List.mem_map.mp hx
    exact (hA.2.2.1.2.1 y hy).1
  · rw [St.rs_len] at hk
    have := (h.1.2.1 k hk).1
    rw [show 0 + 1 + k = 1 + k by omega] at this
    rw [this]
    exact congrArg nI map_getD.1.symm
theorem tb_at {I : Nat → Nat → Int32} {A : AS} (hA : aOK A) (ht : tbA I A) {m : Mv} (hm : m ∈ mvs A.cf A.st.pos) : toA A.st m < 262144 ∧ I 98 (toA A.st m) = nI (encM (val A.cf (A.st.pos - m.code))) ∧ rsL (val A.cf (A.st.pos - m.code)) := by
  have hs := hA.2.2.1
  obtain ⟨e1, e2, e3⟩ := to_ok hs (cf_m A) hm
  have h16 : 16 ^ A.st.hs.length ≤ 65536 := by have := Nat.pow_le_pow_right (show 0 < 16 by decide) hs.1; exact this
  have := ht _ e3
  rw [cf_m A, e2] at this
  have hp := hs.pos
  exact ⟨by omega, this, val_rs (by rw [cf_m A]; exact hs.1) (by omega)⟩
theorem tb_he {I : Nat → Nat → Int32} {A : AS} (hA : aOK A) (ht : tbA I A) : hAt A.st < 262144 ∧ I 98 (hAt A.st) = nI (encM (val A.cf A.st.pos)) ∧ rsL (val A.cf A.st.pos) := by
  have hs := hA.2.2.1
  obtain ⟨e1, e2, e3, e4⟩ := hAt_mod hs
  have h16 : 16 ^ A.st.hs.length ≤ 65536 := by have := Nat.pow_le_pow_right (show 0 < 16 by decide) hs.1; exact this
  have := ht _ e3
  rw [cf_m A, e4] at this
  exact ⟨by omega, this, val_rs (by rw [cf_m A]; exact hs.1) hs.pos⟩
section MP
variable (E : GE) (l : Launch)
variable {I : Nat → Nat → Int32} {J : Nat → Nat → Int64} {R : Nat → Nat → Option Nat} {D : Nat → Nat → UInt64} {N : Nat} {ex : Bool} {A : AS} {c : Nat}
set_option maxRecDepth 100000 in
theorem m_laysA (hR : lkM R N) (hA : aOK A) (h : rM I A c) (hc : c ≤ 1000) : g_Ct E l mX7_lays 4 93 0 0 [.ref 79] (I, J, R, D, N, ex) (g_rv (fun I' => frL2 I I' ∧ rM I' A (c + 1) ∧ tbA I' A) J R D N ex) := by
  obtain ⟨r, h1, h2, h3⟩ := h.2.2.2.2.2.2.1
  refine (m_lays E l hR hA.2.1 (h.cn hA) ⟨h.2.2.2.1.2.2, h.2.2.2.2.1.2⟩ ⟨h1, h3⟩ (by omega) h.2.2.2.2.2.2.2).mono ?_
  rintro o w ⟨I', rfl, ⟨g1, ⟨r', g2, g3⟩, g4, g5⟩, rfl⟩
  exact ⟨I', rfl, ⟨g1, h.l g1 ⟨r', g3.1, by omega, g3.2⟩ (Or.inr ⟨_, _, g4, g5⟩), by unfold tbA; rw [← St.rs_len]; exact g5⟩, rfl⟩
end MP
