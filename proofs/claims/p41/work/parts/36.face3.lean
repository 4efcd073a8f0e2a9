/-! a quotient of two whole numbers is a number; HeapGames, on: zeros, heapWith -/
section FQ
end FQ
theorem i_pred (x : Int32) : x + Int32.ofInt (-1) = x - 1 := by rw [Int32.sub_eq_add_neg, show Int32.ofInt (-1) = -1 from by decide]
/-- the part of heaps 0 to m - 1 of value 0 -/
def zcS (ru : Ru) (k : Nat) : Nat → Nat
  | 0 => 0
  | n + 1 => zcS ru k n + if vS ru k n = 0 then 1 else 0
theorem zcS_le (ru : Ru) (k : Nat) : ∀ n, zcS ru k n ≤ n
  | 0 => Nat.le_refl _
  | n + 1 => by rw [zcS]; have := zcS_le ru k n; split <;> omega
theorem zr_ne {m : Nat} (hm : m < 301) : (nI (m + 1)).toInt ≠ 0 := by rw [nI_toInt (by omega)]; omega
section FC
variable (E : GE) (l : Launch)
variable {I : Nat → Nat → Int32} {J : Nat → Nat → Int64} {R : Nat → Nat → Option Nat} {D : Nat → Nat → UInt64} {N : Nat} {ex : Bool} {sw : Bool} {A : AS} {n : Nat}
end FC
