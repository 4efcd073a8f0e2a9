/-! a quotient of two whole numbers is a number; HeapGames, on: zeros, heapWith -/
section FQ
theorem settle_num (f : Jvm.FP.Core.Fmt) (s : Bool) (c : Nat) (q : Int) : Jvm.FP.Core.settle f s c q ≠ .nan := by
  unfold Jvm.FP.Core.settle Jvm.FP.Core.bound
  repeat' split
  all_goals (intro h; cases h)
theorem ratio_num (f : Jvm.FP.Core.Fmt) (s : Bool) (a b : Nat) (e : Int) : Jvm.FP.Core.roundRatio f s a b e ≠ .nan := by
  unfold Jvm.FP.Core.roundRatio
  split
  · intro h; cases h
  · exact settle_num _ _ _ _
theorem ddiv_num {a b : Int32} (hb : b.toInt ≠ 0) : Jvm.FP.Core.val64 (Jvm.FP.ddiv (Jvm.FP.i2d a) (Jvm.FP.i2d b)) ≠ .nan := by
  show Jvm.FP.Core.val64 (Jvm.FP.Core.ddiv (Jvm.FP.Core.i2d a) (Jvm.FP.Core.i2d b)) ≠ .nan
  rw [Jvm.FP.Core.val64_ddiv]
  have h1 : Jvm.FP.Core.Whole a.toInt (Jvm.FP.Core.val64 (Jvm.FP.Core.i2d a)) := Jvm.FP.Core.i2d_int a
  have h2 : Jvm.FP.Core.Whole b.toInt (Jvm.FP.Core.val64 (Jvm.FP.Core.i2d b)) := Jvm.FP.Core.i2d_int b
  cases e1 : Jvm.FP.Core.val64 (Jvm.FP.Core.i2d a) with
  | nan => rw [e1] at h1; exact h1.elim
  | inf s => rw [e1] at h1; exact h1.elim
  | fin s c q =>
    cases e2 : Jvm.FP.Core.val64 (Jvm.FP.Core.i2d b) with
    | nan => rw [e2] at h2; exact h2.elim
    | inf s => rw [e2] at h2; exact h2.elim
    | fin t d r =>
      rw [e2] at h2
      have h2' : Jvm.FP.Core.signed t (d * 2 ^ r.toNat) = b.toInt * ((2 ^ (-r).toNat : Nat) : Int) := h2
      show (if d = 0 then (if c = 0 then Jvm.FP.Core.Datum.nan else .inf (s != t)) else Jvm.FP.Core.roundRatio Jvm.FP.Core.b64 (s != t) c d (q - r)) ≠ .nan
      split
      · rename_i hd
        subst hd
        exfalso
        rw [Nat.zero_mul] at h2'
        have h3 : Jvm.FP.Core.signed t 0 = 0 := by cases t <;> rfl
        rw [h3] at h2'
        rcases Int.mul_eq_zero.mp h2'.symm with z | z
        · exact hb z
        · have : 0 < 2 ^ (-r).toNat := Nat.two_pow_pos _
          omega
      · exact ratio_num _ _ _ _ _
theorem num_n64 {x : UInt64} (h : Jvm.FP.Core.val64 x ≠ .nan) : vf_n64 x := by
  unfold vf_n64
  rw [UInt64.le_iff_toNat_le, UInt64.toNat_and]
  show x.toNat &&& (2 ^ 63 - 1) ≤ 9218868437227405312
  rw [Nat.and_two_pow_sub_one_eq_mod]
  have hx := x.toNat_lt
  by_cases h1 : x.toNat / 4503599627370496 % 2048 = 2047
  · by_cases h2 : x.toNat % 4503599627370496 = 0
    · omega
    · exfalso
      apply h
      unfold Jvm.FP.Core.val64 Jvm.FP.Core.decode
      rw [if_pos (show Jvm.FP.Core.fieldE Jvm.FP.Core.b64 x.toNat = Jvm.FP.Core.b64.exps - 1 from h1), if_neg (show ¬ Jvm.FP.Core.fieldT Jvm.FP.Core.b64 x.toNat = 0 from h2)]
  · omega
end FQ
theorem i_pred (x : Int32) : x + Int32.ofInt (-1) = x - 1 := by rw [Int32.sub_eq_add_neg, show Int32.ofInt (-1) = -1 from by decide]
/-- the part of heaps 0 to m - 1 of value 0 -/
def zcS (ru : Ru) (k : Nat) : Nat → Nat
  | 0 => 0
  | n + 1 => zcS ru k n + if vS ru k n = 0 then 1 else 0
theorem zcS_le (ru : Ru) (k : Nat) : ∀ n, zcS ru k n ≤ n
  | 0 => Nat.le_refl _
  | n + 1 => by rw [zcS]; have := zcS_le ru k n; split <;> omega
def zrS (ru : Ru) (k m : Nat) : UInt64 := Jvm.FP.ddiv (Jvm.FP.i2d (nI (zcS ru k (m + 1)))) (Jvm.FP.i2d (nI (m + 1)))
theorem zr_ne {m : Nat} (hm : m < 301) : (nI (m + 1)).toInt ≠ 0 := by rw [nI_toInt (by omega)]; omega
section FC
variable (E : GE) (l : Launch)
variable {I : Nat → Nat → Int32} {J : Nat → Nat → Int64} {R : Nat → Nat → Option Nat} {D : Nat → Nat → UInt64} {N : Nat} {ex : Bool} {sw : Bool} {A : AS} {n : Nat}
end FC
