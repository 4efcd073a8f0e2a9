/-! rows of four bits as numbers -/
theorem bt_nI {x i : Nat} (hi : i < 32) : bt (nI x) i = x.testBit i := by
  show (BitVec.ofNat 32 x).getLsbD i = _
  rw [BitVec.getLsbD_ofNat, decide_eq_true hi, Bool.true_and]
theorem tb_hi {x i k : Nat} (h : x < 2 ^ k) (hi : k ≤ i) : x.testBit i = false := Nat.testBit_lt_two_pow (Nat.lt_of_lt_of_le h (Nat.pow_le_pow_right (by decide) hi))
theorem nx_or (a b : Nat) : nI a ||| nI b = nI (a ||| b) := by
  apply b_ext
  intro i hi
  rw [b_or, bt_nI hi, bt_nI hi, bt_nI hi, Nat.testBit_or]
theorem nx_shr {x c : Nat} (hx : x < 2 ^ 31) (hc : c < 32) : nI x >>> (nI c &&& 31) = nI (x / 2 ^ c) := by
  apply b_ext
  intro i hi
  rw [b_sshr c hc _ hi, bt_nI hi, Nat.testBit_div_two_pow]
  split
  · rename_i h
    rw [bt_nI h, Nat.add_comm]
  · rename_i h
    rw [bt_nI (by omega), tb_hi hx (by omega), tb_hi hx (by omega)]
theorem nx_shl {x c : Nat} (hc : c < 32) : nI x <<< (nI c &&& 31) = nI (x * 2 ^ c) := by
  apply b_ext
  intro i hi
  rw [b_shl c hc _ hi, bt_nI hi, Nat.testBit_mul_two_pow]
  by_cases h : c ≤ i
  · rw [bt_nI (by omega)]
  · rw [decide_eq_false h]; simp
theorem sh4 {h : Nat} : (4 : Int32) * nI h = nI (4 * h) := by rw [← pk_mul]; rfl
theorem bits_nI {x h : Nat} (hx : x < 2 ^ 31) (hh : h < 4) : s_bits (nI x) (nI h) = nI (x / 2 ^ (4 * h) % 16) := by
  unfold s_bits
  rw [sh4, nx_shr hx (by omega)]
  show _ &&& nI 15 = _
  rw [nx_and, show (15 : Nat) = 2 ^ 4 - 1 from rfl, Nat.and_two_pow_sub_one_eq_mod]
def setN (x h b : Nat) : Nat := 2 ^ (4 * h) * (2 ^ 4 * (x / 2 ^ (4 * h + 4)) + b) + x % 2 ^ (4 * h)
theorem with_nI {x h b : Nat} (hh : h < 4) (hb : b < 16) : s_with (nI x) (nI h) (nI b) = nI (setN x h b) := by
  unfold s_with
  rw [sh4, show (15 : Int32) = nI 15 from rfl, nx_shl (by omega), nx_shl (by omega)]
  apply b_ext
  intro i hi
  rw [b_or, b_and, b_xor, bt_nI hi, bt_nI hi, bt_nI hi, bt_nI hi, b_m1 i hi]
  have hlt : x % 2 ^ (4 * h) < 2 ^ (4 * h) := Nat.mod_lt _ (Nat.two_pow_pos _)
  rw [setN, Nat.testBit_two_pow_mul_add _ hlt, Nat.testBit_mul_two_pow, Nat.testBit_mul_two_pow]
  by_cases h1 : i < 4 * h
  · rw [if_pos h1, Nat.testBit_mod_two_pow, decide_eq_false (p := 4 * h ≤ i) (by omega), decide_eq_true h1]
    simp
  · rw [if_neg h1, Nat.testBit_two_pow_mul_add _ (show b < 2 ^ 4 from hb), decide_eq_true (p := 4 * h ≤ i) (by omega)]
    by_cases h2 : i - 4 * h < 4
    · rw [if_pos h2]
      have : (15 : Nat).testBit (i - 4 * h) = true := by
        rcases (show i - 4 * h = 0 ∨ i - 4 * h = 1 ∨ i - 4 * h = 2 ∨ i - 4 * h = 3 by omega) with q | q | q | q <;> rw [q] <;> decide
      rw [this]
      simp
    · rw [if_neg h2, tb_hi (show (15 : Nat) < 2 ^ 4 by decide) (by omega), tb_hi (show b < 2 ^ 4 from hb) (by omega), Nat.testBit_div_two_pow]
      rw [show i - 4 * h - 4 + (4 * h + 4) = i by omega]
      simp
def cutN (x h : Nat) : Nat := 2 ^ (4 * h) * (2 ^ (16 - 4 * h) * (x / 2 ^ 16) + x % 2 ^ 16 / 2 ^ (4 * h + 4)) + x % 2 ^ (4 * h)
theorem b_hi16 : ∀ i, i < 32 → bt (-65536) i = decide (16 ≤ i) := by decide +kernel
theorem without_nI {x h : Nat} (hh : h < 4) : s_without (nI x) (nI h) = nI (cutN x h) := by
  unfold s_without
  have e1 : nI x &&& 65535 = nI (x % 2 ^ 16) := nx_mod x
  have e2 : (1 : Int32) <<< ((4 : Int32) * nI h &&& 31) - 1 = nI (2 ^ (4 * h) - 1) := by
    rw [sh4, show (1 : Int32) = nI 1 from rfl, nx_shl (by omega), Nat.one_mul, pk_sub (Nat.one_le_two_pow)]
  have hlt6 : x % 2 ^ 16 < 2 ^ 16 := Nat.mod_lt _ (by decide)
  rw [e1, e2, show nI h + 1 = nI (h + 1) from nI_1 h, sh4, sh4, nx_shr (by omega) (by omega), nx_shl (by omega), nx_and, Nat.and_two_pow_sub_one_eq_mod]
  apply b_ext
  intro i hi
  rw [b_or, b_or, b_and, bt_nI hi, bt_nI hi, bt_nI hi, bt_nI hi, b_hi16 i hi]
  have hlt : x % 2 ^ (4 * h) < 2 ^ (4 * h) := Nat.mod_lt _ (Nat.two_pow_pos _)
  have hd : x % 2 ^ 16 / 2 ^ (4 * h + 4) < 2 ^ (16 - 4 * h) := by
    rw [Nat.div_lt_iff_lt_mul (Nat.two_pow_pos _), ← Nat.pow_add]
    exact Nat.lt_of_lt_of_le hlt6 (Nat.pow_le_pow_right (by decide) (by omega))
  rw [cutN, Nat.testBit_two_pow_mul_add _ hlt, Nat.testBit_mul_two_pow, Nat.testBit_mod_two_pow, show 4 * (h + 1) = 4 * h + 4 by omega]
  by_cases h1 : i < 4 * h
  · rw [if_pos h1, decide_eq_false (p := 4 * h ≤ i) (by omega), decide_eq_true h1, decide_eq_false (p := 16 ≤ i) (by omega)]
    simp
  · rw [if_neg h1, Nat.testBit_two_pow_mul_add _ hd, decide_eq_true (p := 4 * h ≤ i) (by omega), decide_eq_false h1]
    by_cases h2 : i < 16
    · rw [if_pos (by omega), decide_eq_false (p := 16 ≤ i) (by omega)]
      simp
    · rw [if_neg (by omega), decide_eq_true (p := 16 ≤ i) (by omega), Nat.testBit_div_two_pow, Nat.testBit_div_two_pow, Nat.testBit_mod_two_pow, decide_eq_false (p := i - 4 * h + (4 * h + 4) < 16) (by omega), show i - 4 * h - (16 - 4 * h) + 16 = i by omega]
      simp
theorem passes_nI {x : Nat} (hx : x < 2 ^ 31) : s_passes (nI x) = nI (x / 2 ^ 16) := nx_shr (c := 16) hx (by decide)
/-- four bits each, the first lowest -/
def pk4 : List Nat → Nat
  | [] => 0
  | x :: xs => x + 16 * pk4 xs
theorem pk4_lt {l : List Nat} (h : ∀ x ∈ l, x < 16) : pk4 l < 16 ^ l.length := by
  induction l with
  | nil => decide
  | cons x xs ih =>
    have h1 := ih (fun y hy => h y (List.mem_cons_of_mem _ hy))
    have h2 := h x (List.mem_cons_self ..)
    rw [pk4, List.length_cons, Nat.pow_succ]
    omega
theorem p16 (h : Nat) : 2 ^ (4 * h) = 16 ^ h := by rw [Nat.pow_mul]
theorem pk4_get {l : List Nat} (h : ∀ x ∈ l, x < 16) (k p : Nat) : k < 4 → l.length ≤ 4 → (pk4 l + 2 ^ 16 * p) / 2 ^ (4 * k) % 16 = l.getD k 0 := by
  intro hk hl
  match l, h, hl with
  | [], h, _ => rcases (show k = 0 ∨ k = 1 ∨ k = 2 ∨ k = 3 by omega) with rfl | rfl | rfl | rfl <;> simp [pk4] <;> omega
  | [a], h, _ => 
    have := h a (by simp)
    rcases (show k = 0 ∨ k = 1 ∨ k = 2 ∨ k = 3 by omega) with rfl | rfl | rfl | rfl <;> simp [pk4] <;> omega
  | [a, b], h, _ => 
    have := h a (by simp)
    have := h b (by simp)
    rcases (show k = 0 ∨ k = 1 ∨ k = 2 ∨ k = 3 by omega) with rfl | rfl | rfl | rfl <;> simp [pk4] <;> omega
  | [a, b, c], h, _ => 
    have := h a (by simp)
    have := h b (by simp)
    have := h c (by simp)
    rcases (show k = 0 ∨ k = 1 ∨ k = 2 ∨ k = 3 by omega) with rfl | rfl | rfl | rfl <;> simp [pk4] <;> omega
  | [a, b, c, d], h, _ => 
    have := h a (by simp)
    have := h b (by simp)
    have := h c (by simp)
    have := h d (by simp)
    rcases (show k = 0 ∨ k = 1 ∨ k = 2 ∨ k = 3 by omega) with rfl | rfl | rfl | rfl <;> simp [pk4] <;> omega
  | _ :: _ :: _ :: _ :: _ :: _, _, hl => simp at hl
theorem pk4_set {l : List Nat} (h : ∀ x ∈ l, x < 16) {k p b : Nat} (hk : k < l.length) (hl : l.length ≤ 4) : setN (pk4 l + 2 ^ 16 * p) k b = pk4 (l.set k b) + 2 ^ 16 * p := by
  match l, h, hl with
  | [], h, _ => simp at hk
  | [a], h, _ => 
    have := h a (by simp)
    rcases (show k = 0 by simp at hk; omega) with rfl
    simp [pk4, setN] <;> omega
  | [a, b], h, _ => 
    have := h a (by simp)
    have := h b (by simp)
    rcases (show k = 0 ∨ k = 1 by simp at hk; omega) with rfl | rfl <;> simp [pk4, setN] <;> omega
  | [a, b, c], h, _ => 
    have := h a (by simp)
    have := h b (by simp)
    have := h c (by simp)
    rcases (show k = 0 ∨ k = 1 ∨ k = 2 by simp at hk; omega) with rfl | rfl | rfl <;> simp [pk4, setN] <;> omega
  | [a, b, c, d], h, _ => 
    have := h a (by simp)
    have := h b (by simp)
    have := h c (by simp)
    have := h d (by simp)
    rcases (show k = 0 ∨ k = 1 ∨ k = 2 ∨ k = 3 by simp at hk; omega) with rfl | rfl | rfl | rfl <;> simp [pk4, setN] <;> omega
  | _ :: _ :: _ :: _ :: _ :: _, _, hl => simp at hl
theorem pk4_app {l : List Nat} (h : ∀ x ∈ l, x < 16) {p b : Nat} (hl : l.length < 4) : setN (pk4 l + 2 ^ 16 * p) l.length b = pk4 (l ++ [b]) + 2 ^ 16 * p := by
  match l, h, hl with
  | [], h, _ => simp [pk4, setN]; omega
  | [a], h, _ => 
    have := h a (by simp)
    simp [pk4, setN]; omega
  | [a, b], h, _ => 
    have := h a (by simp)
    have := h b (by simp)
    simp [pk4, setN]; omega
  | [a, b, c], h, _ => 
    have := h a (by simp)
    have := h b (by simp)
    have := h c (by simp)
    simp [pk4, setN]; omega
  | _ :: _ :: _ :: _ :: _, _, hl => simp at hl; omega
theorem pk4_cut {l : List Nat} (h : ∀ x ∈ l, x < 16) {k p : Nat} (hk : k < l.length) (hl : l.length ≤ 4) : cutN (pk4 l + 2 ^ 16 * p) k = pk4 (l.eraseIdx k) + 2 ^ 16 * p := by
  match l, h, hl with
  | [], h, _ => simp at hk
  | [a], h, _ => 
    have := h a (by simp)
    rcases (show k = 0 by simp at hk; omega) with rfl
    simp [pk4, cutN] <;> omega
  | [a, b], h, _ => 
    have := h a (by simp)
    have := h b (by simp)
    rcases (show k = 0 ∨ k = 1 by simp at hk; omega) with rfl | rfl <;> simp [pk4, cutN] <;> omega
  | [a, b, c], h, _ => 
    have := h a (by simp)
    have := h b (by simp)
    have := h c (by simp)
    rcases (show k = 0 ∨ k = 1 ∨ k = 2 by simp at hk; omega) with rfl | rfl | rfl <;> simp [pk4, cutN] <;> omega
  | [a, b, c, d], h, _ => 
    have := h a (by simp)
    have := h b (by simp)
    have := h c (by simp)
    have := h d (by simp)
    rcases (show k = 0 ∨ k = 1 ∨ k = 2 ∨ k = 3 by simp at hk; omega) with rfl | rfl | rfl | rfl <;> simp [pk4, cutN] <;> omega
  | _ :: _ :: _ :: _ :: _ :: _, _, hl => simp at hl
