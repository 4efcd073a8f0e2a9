/-! HeapGames: changes, on -/
theorem rC.mono {I : Nat → Nat → Int32} {J : Nat → Nat → Int64} {sw : Bool} {A : AS} {n m : Nat} (h : rC I J sw A n) (hm : n ≤ m) : rC I J sw A m := by
  obtain ⟨h1, h2, h3, h4, h5, h6, h7, h8, h9⟩ := h
  exact ⟨h1, h2, h3, h4, h5, h6, h7, h8.mono hm, h9⟩
theorem hiC.fr {I I' : Nat → Nat → Int32} {nr : Nat} {hi : List St} (h : hiC I nr hi) (f : ∀ o, 51 ≤ o → o ≤ 72 → I' o = I o) : hiC I' nr hi := by
  obtain ⟨k1, k2, nx, k3, k4, k5⟩ := h
  exact ⟨k1, by rw [f 51 (by omega) (by omega)]; exact k2, nx, k3, by rw [f 51 (by omega) (by omega)]; exact k4, fun i hi => ⟨(k5 i hi).1, (k5 i hi).2.fr (f _ (by omega) (by omega)) (f _ (by omega) (by omega))⟩⟩
theorem rC.st {I I' : Nat → Nat → Int32} {J : Nat → Nat → Int64} {sw : Bool} {A : AS} {n : Nat} (h : rC I J sw A n) {s : St} (f : ∀ o, o ≠ gm sw + 2 → o ≠ gm sw + 3 → I' o = I o) (ho : stOK A.nr s) (hs : stC I' (gm sw + 2) s) : rC I' J sw (A.up s A.hi) n :=
  h.chg (fun o a b _ => f o a b) ho hs (h.2.2.2.2.2.2.2.2.1.fr (fun o a b => f o (by have := gm_b sw; omega) (by have := gm_b sw; omega)))
theorem set_zero {h a : Nat} (hh : h < 4) : setN 0 h a = a * 2 ^ (4 * h) := by
  rcases (show h = 0 ∨ h = 1 ∨ h = 2 ∨ h = 3 by omega) with rfl | rfl | rfl | rfl <;> simp [setN] <;> omega
theorem set_two {h o a : Nat} (hh : h < 4) (ho : o < 4) (hne : h ≠ o) (ha : a < 16) : setN (setN 0 h a) o a = a * (2 ^ (4 * min h o) + 2 ^ (4 * max h o)) := by
  rw [set_zero hh]
  rcases (show h = 0 ∨ h = 1 ∨ h = 2 ∨ h = 3 by omega) with rfl | rfl | rfl | rfl <;> rcases (show o = 0 ∨ o = 1 ∨ o = 2 ∨ o = 3 by omega) with rfl | rfl | rfl | rfl <;> first | exact absurd rfl hne | (simp [setN]; omega)
theorem mvOK.play {nr : Nat} {A : AS} (ho : stOK nr A.st) {m : Mv} (h : mvOK A.cf A.st.pos m) : playOK A.st m := by
  have hm : A.cf.m = A.st.hs.length := St.rs_len _
  have h4 := ho.1
  rcases m with ⟨k, a⟩ | ⟨k, o, a⟩ | ⟨⟩
  · obtain ⟨h1, h2, h3, _⟩ : k < A.cf.m ∧ 1 ≤ a ∧ a ≤ dig A.st.pos k ∧ A.cf.al k (dig A.st.pos k) a = true := h
    rw [ho.dig (by omega)] at h3
    exact ⟨(by omega : k < A.st.hs.length), h2, h3⟩
  · obtain ⟨h1, h2, h3, h5, h6, _⟩ : k < o ∧ o < A.cf.m ∧ 1 ≤ a ∧ a ≤ dig A.st.pos k ∧ a ≤ dig A.st.pos o ∧ A.cf.sh a = true := h
    rw [ho.dig (by omega)] at h5 h6
    exact ⟨h1, (by omega : o < A.st.hs.length), h3, h5, h6⟩
  · have h1 : 65536 ≤ A.st.pos := h
    have h2 := ho.pk
    show 1 ≤ A.st.ps
    unfold St.pos at h1
    omega
section FK
variable (E : GE) (l : Launch)
variable {I : Nat → Nat → Int32} {J : Nat → Nat → Int64} {R : Nat → Nat → Option Nat} {D : Nat → Nat → UInt64} {N : Nat} {ex : Bool} {sw : Bool} {A : AS} {n s : Nat}
end FK
