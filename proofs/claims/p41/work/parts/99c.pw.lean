/-! four letters to a word -/
def pkN (c : Nat → Nat) (q : Nat) : Nat → Nat
  | 0 => 0
  | k + 1 => if k / 4 = q then pkN c q k * 256 + c k else pkN c q k
theorem pk_step {x c : Nat} (hc : c < 128) : (nI x <<< ((8 : Int32) &&& 31)) ||| nI c = nI (x * 256 + c) := by
  rw [show (8 : Int32) = nI 8 from rfl, nx_shl (by decide), nx_or, show (2 : Nat) ^ 8 = 256 from rfl]
  congr 1
  have h := Nat.shiftLeft_add_eq_or_of_lt (show c < 2 ^ 8 by omega) x
  rw [Nat.shiftLeft_eq, show (2 : Nat) ^ 8 = 256 from rfl] at h
  exact h.symm
section PW
variable {c : Nat → Nat} {q : Nat}
theorem pkN_0 : ∀ k, k ≤ 4 * q → pkN c q k = 0
  | 0, _ => rfl
  | k + 1, h => by rw [pkN, if_neg (by omega), pkN_0 k (by omega)]
theorem pkN_1 : pkN c q (4 * q + 1) = c (4 * q) := by rw [pkN, if_pos (by omega), pkN_0 _ (Nat.le_refl _)]; omega
theorem pkN_2 : pkN c q (4 * q + 2) = c (4 * q) * 256 + c (4 * q + 1) := by rw [show 4 * q + 2 = 4 * q + 1 + 1 from rfl, pkN, if_pos (by omega), pkN_1]
theorem pkN_3 : pkN c q (4 * q + 3) = (c (4 * q) * 256 + c (4 * q + 1)) * 256 + c (4 * q + 2) := by rw [show 4 * q + 3 = 4 * q + 2 + 1 from rfl, pkN, if_pos (by omega), pkN_2]
theorem pkN_4 : pkN c q (4 * q + 4) = ((c (4 * q) * 256 + c (4 * q + 1)) * 256 + c (4 * q + 2)) * 256 + c (4 * q + 3) := by rw [show 4 * q + 4 = 4 * q + 3 + 1 from rfl, pkN, if_pos (by omega), pkN_3]
theorem pkN_more : ∀ f, pkN c q (4 * q + 4 + f) = pkN c q (4 * q + 4)
  | 0 => rfl
  | f + 1 => by rw [show 4 * q + 4 + (f + 1) = 4 * q + 4 + f + 1 from rfl, pkN, if_neg (by omega), pkN_more f]
theorem pkN_20 (hq : q < 5) : pkN c q 20 = ((c (4 * q) * 256 + c (4 * q + 1)) * 256 + c (4 * q + 2)) * 256 + c (4 * q + 3) := by
  have := pkN_more (c := c) (q := q) (16 - 4 * q)
  rw [show 4 * q + 4 + (16 - 4 * q) = 20 by omega] at this
  rw [this, pkN_4]
theorem byN_nI {x : Nat} (h : x < 2 ^ 31) : byN (nI x) = x % 256 := by
  unfold byN
  show (BitVec.ofNat 32 x).toNat % 256 = _
  rw [BitVec.toNat_ofNat, Nat.mod_eq_of_lt (show x < 2 ^ 32 by omega)]
theorem byW_nI {x : Nat} (h : x < 2 ^ 31) : byN (byW (nI x) 0) = x / 2 ^ 24 % 256 ∧ byN (byW (nI x) 1) = x / 2 ^ 16 % 256 ∧ byN (byW (nI x) 2) = x / 2 ^ 8 % 256 ∧ byN (byW (nI x) 3) = x % 256 := by
  have s0 : shv 0 = nI 24 := by decide
  have s1 : shv 1 = nI 16 := by decide
  have s2 : shv 2 = nI 8 := by decide
  have s3 : shv 3 = nI 0 := by decide
  unfold byW
  rw [s0, s1, s2, s3, nx_shr h (by decide), nx_shr h (by decide), nx_shr h (by decide), nx_shr h (by decide)]
  have l : ∀ k, x / 2 ^ k < 2 ^ 31 := fun k => Nat.lt_of_le_of_lt (Nat.div_le_self _ _) h
  rw [byN_nI (l _), byN_nI (l _), byN_nI (l _), byN_nI (l _), Nat.pow_zero, Nat.div_one]
  exact ⟨rfl, rfl, rfl, rfl⟩
theorem addT_w {tx : Nat → Nat} {tl a b d e : Nat} (ha : a < 128) (hb : b < 128) (hd : d < 128) (he : e < 128) (i : Nat) :
    addT tx tl (nI (((a * 256 + b) * 256 + d) * 256 + e)) 4 i = if i = tl then a else if i = tl + 1 then b else if i = tl + 2 then d else if i = tl + 3 then e else tx i := by
  have hx : ((a * 256 + b) * 256 + d) * 256 + e < 2 ^ 31 := by omega
  obtain ⟨w0, w1, w2, w3⟩ := byW_nI hx
  have v0 : (((a * 256 + b) * 256 + d) * 256 + e) / 2 ^ 24 % 256 = a := by omega
  have v1 : (((a * 256 + b) * 256 + d) * 256 + e) / 2 ^ 16 % 256 = b := by omega
  have v2 : (((a * 256 + b) * 256 + d) * 256 + e) / 2 ^ 8 % 256 = d := by omega
  have v3 : (((a * 256 + b) * 256 + d) * 256 + e) % 256 = e := by omega
  rw [addT, addT, addT, addT, addT, w0, w1, w2, w3, v0, v1, v2, v3]
  unfold putT
  by_cases h0 : i = tl
  · rw [if_neg (by omega), if_neg (by omega), if_neg (by omega), if_pos (by omega), if_pos h0]
  · by_cases h1 : i = tl + 1
    · rw [if_neg (by omega), if_neg (by omega), if_pos h1, if_neg h0, if_pos h1]
    · by_cases h2 : i = tl + 2
      · rw [if_neg (by omega), if_pos h2, if_neg h0, if_neg h1, if_pos h2]
      · by_cases h3 : i = tl + 3
        · rw [if_pos h3, if_neg h0, if_neg h1, if_neg h2, if_pos h3]
        · rw [if_neg h3, if_neg h2, if_neg h1, if_neg (by omega), if_neg h0, if_neg h1, if_neg h2, if_neg h3]
/-- twenty letters appended -/
theorem appT_w {tx : Nat → Nat} {tl : Nat} (hc : ∀ k, k < 20 → c k < 128) (i : Nat) :
    appT tx tl (nI (pkN c 0 20)) (nI (pkN c 1 20)) (nI (pkN c 2 20)) (nI (pkN c 3 20)) (nI (pkN c 4 20)) i = if tl ≤ i ∧ i < tl + 20 then c (i - tl) else tx i := by
  unfold appT
  rw [pkN_20 (by decide), pkN_20 (by decide), pkN_20 (by decide), pkN_20 (by decide), pkN_20 (by decide)]
  rw [addT_w (hc _ (by decide)) (hc _ (by decide)) (hc _ (by decide)) (hc _ (by decide)), addT_w (hc _ (by decide)) (hc _ (by decide)) (hc _ (by decide)) (hc _ (by decide)), addT_w (hc _ (by decide)) (hc _ (by decide)) (hc _ (by decide)) (hc _ (by decide)), addT_w (hc _ (by decide)) (hc _ (by decide)) (hc _ (by decide)) (hc _ (by decide)), addT_w (hc _ (by decide)) (hc _ (by decide)) (hc _ (by decide)) (hc _ (by decide))]
  by_cases h : tl ≤ i ∧ i < tl + 20
  · rw [if_pos h]
    obtain ⟨k, hk⟩ : ∃ k, i = tl + k := ⟨i - tl, by omega⟩
    subst hk
    rw [Nat.add_sub_cancel_left]
    have hk : k < 20 := by omega
    rcases (show k = 0 ∨ k = 1 ∨ k = 2 ∨ k = 3 ∨ k = 4 ∨ k = 5 ∨ k = 6 ∨ k = 7 ∨ k = 8 ∨ k = 9 ∨ k = 10 ∨ k = 11 ∨ k = 12 ∨ k = 13 ∨ k = 14 ∨ k = 15 ∨ k = 16 ∨ k = 17 ∨ k = 18 ∨ k = 19 by omega) with rfl | rfl | rfl | rfl | rfl | rfl | rfl | rfl | rfl | rfl | rfl | rfl | rfl | rfl | rfl | rfl | rfl | rfl | rfl | rfl <;> simp [Nat.add_assoc]
  · rw [if_neg h]
    repeat rw [if_neg (by omega)]
end PW
