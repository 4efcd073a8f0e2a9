/-! SPEC of the reading of texts -/
abbrev PS : Type := List (Nat × Nat × List Nat) × List (Nat × Nat) × Nat × Bool × Bool × List Nat
abbrev PS.ru (P : PS) : List (Nat × Nat × List Nat) := P.1
abbrev PS.hs (P : PS) : List (Nat × Nat) := P.2.1
abbrev PS.ps (P : PS) : Nat := P.2.2.1
abbrev PS.hp (P : PS) : Bool := P.2.2.2.1
abbrev PS.mi (P : PS) : Bool := P.2.2.2.2.1
abbrev PS.sh (P : PS) : List Nat := P.2.2.2.2.2
abbrev PS.st (P : PS) : St := (P.hs, P.ps, P.mi, [])
def PS.nm (P : PS) (k : Nat) : Nat := (P.ru.getD k (0, 0, [])).1
def fnR (P : PS) (x : Nat) : Option Nat := perF (fun k => decide (P.nm k = x)) P.ru.length 0
def cdT (tx : Nat → Nat) (L a : Nat) : Nat := naF tx (tkS tx L a) (tkN tx L a)
abbrev RdO : Type := (Nat × Nat) ⊕ (PS × Nat)
def rdRu (tx : Nat → Nat) (L a : Nat) (P : PS) : RdO :=
  if 6 ≤ P.ru.length then .inl (tkS tx L a, 5) else
  if isNm tx L (tkE tx L a) = false then .inl (tkS tx L (tkE tx L a), 1) else
  if fnR P (cdT tx L (tkE tx L a)) ≠ none then .inl (tkS tx L (tkE tx L a), 2) else
  if kdS tx L (tkE tx L (tkE tx L a)) = -1 then .inl (tkS tx L (tkE tx L (tkE tx L a)), 1) else
  if kdS tx L (tkE tx L (tkE tx L a)) = 0 then (match amR tx L 60 9 (tkE tx L (tkE tx L (tkE tx L a))) [] with
    | .inl q => .inl q
    | .inr q => .inr ((P.ru ++ [(cdT tx L (tkE tx L a), 0, q.1)], P.2), q.2))
  else .inr ((P.ru ++ [(cdT tx L (tkE tx L a), (kdS tx L (tkE tx L (tkE tx L a))).toInt.toNat, [])], P.2), tkE tx L (tkE tx L (tkE tx L a)))
def rdHe (tx : Nat → Nat) (L a : Nat) (P : PS) : RdO :=
  if 4 ≤ P.hs.length then .inl (tkS tx L a, 5) else
  if isNm tx L (tkE tx L a) = false then .inl (tkS tx L (tkE tx L a), 1) else
  match fnR P (cdT tx L (tkE tx L a)) with
  | none => .inl (tkS tx L (tkE tx L a), 4)
  | some r => if isNu tx L (tkE tx L (tkE tx L a)) = false then .inl (tkS tx L (tkE tx L (tkE tx L a)), 1) else
    if 15 < nmT tx L (tkE tx L (tkE tx L a)) then .inl (tkS tx L (tkE tx L (tkE tx L a)), 3) else
    .inr ((P.ru, P.hs ++ [(r, nmT tx L (tkE tx L (tkE tx L a)))], P.2.2), tkE tx L (tkE tx L (tkE tx L a)))
def rdSh (tx : Nat → Nat) (L a : Nat) (P : PS) : RdO :=
  if P.sh ≠ [] then .inl (tkS tx L a, 2) else
  match amR tx L 15 9 (tkE tx L a) [] with
  | .inl q => .inl q
  | .inr q => .inr ((P.ru, P.hs, P.ps, P.hp, P.mi, q.1), q.2)
def rdPa (tx : Nat → Nat) (L a : Nat) (P : PS) : RdO :=
  if P.hp = true then .inl (tkS tx L a, 2) else
  if isNu tx L (tkE tx L a) = false then .inl (tkS tx L (tkE tx L a), 1) else
  if 3 < nmT tx L (tkE tx L a) then .inl (tkS tx L (tkE tx L a), 3) else
  .inr ((P.ru, P.hs, nmT tx L (tkE tx L a), true, P.mi, P.sh), tkE tx L (tkE tx L a))
def rdMi (tx : Nat → Nat) (L a : Nat) (P : PS) : RdO :=
  if P.mi = true then .inl (tkS tx L a, 2) else .inr ((P.ru, P.hs, P.ps, P.hp, true, P.sh), tkE tx L a)
def rdSt (tx : Nat → Nat) (L a : Nat) (P : PS) : RdO :=
  if isW tx L a 0 then rdRu tx L a P else if isW tx L a 1 then rdHe tx L a P else if isW tx L a 2 then rdSh tx L a P else if isW tx L a 3 then rdPa tx L a P else if isW tx L a 4 then rdMi tx L a P else .inl (tkS tx L a, 1)
def rdTx (tx : Nat → Nat) (L : Nat) : Nat → Nat → PS → (Nat × Nat) ⊕ PS
  | 0, _, P => .inr P
  | f + 1, a, P => if tkK tx L a = 0 then .inr P else match rdSt tx L a P with
    | .inl q => .inl q
    | .inr q => if tkK tx L q.2 ≠ 3 then .inl (tkS tx L q.2, 1) else rdTx tx L f (tkE tx L q.2) q.1
/-! facts -/
theorem clS_lb {x : Int64} {a : Nat} : clS x a = (decide (a ≤ 60) && lbit x a) := by
  unfold clS
  by_cases h : a ≤ 60
  · rw [decide_eq_true h, Bool.true_and, Bool.true_and]
    cases hb : lbit x a with
    | false => rw [decide_eq_true ((lsh_bit (by omega)).mpr hb)]; rfl
    | true => rw [decide_eq_false (fun q => by have := (lsh_bit (x := x) (a := a) (by omega)).mp q; rw [this] at hb; cases hb)]; rfl
  · rw [decide_eq_false h]; rfl
theorem amt_er {q : Nat → Bool} {b : Nat} : ∀ m, (amt q m).length ≤ (amt (fun x => q x && !decide (x = b)) m).length + (if b ≤ m then 1 else 0)
  | 0 => by simp [amt]
  | m + 1 => by
    have ih := amt_er (q := q) (b := b) m
    rw [amt, amt, List.length_append, List.length_append]
    by_cases hb : m + 1 = b
    · rw [if_neg (by omega)] at ih
      rw [if_pos (show b ≤ m + 1 by omega)]
      have : (if q (m + 1) = true then [m + 1] else []).length ≤ 1 := by split <;> simp
      omega
    · have e : (q (m + 1) && !decide (m + 1 = b)) = q (m + 1) := by rw [decide_eq_false hb]; simp
      rw [e]
      have : (if b ≤ m then 1 else 0) ≤ (if b ≤ m + 1 then 1 else 0) := by split <;> split <;> omega
      omega
theorem amt_al {m : Nat} : ∀ (al : List Nat) (q : Nat → Bool), (∀ a, 1 ≤ a → a ≤ m → q a = true → a ∈ al) → (amt q m).length ≤ al.length
  | [], q, h => by
    cases e : amt q m with
    | nil => exact Nat.le_refl _
    | cons x xs =>
      have hx : x ∈ amt q m := by rw [e]; exact List.mem_cons_self
      have := mem_amt.mp hx
      exact absurd (h x this.1 this.2.1 this.2.2) List.not_mem_nil
  | b :: al, q, h => by
    have h1 := amt_al al (fun x => q x && !decide (x = b)) (fun a a1 a2 a3 => by
      have a3' := a3
      simp at a3'
      have := h a a1 a2 a3'.1
      rcases List.mem_cons.mp this with z | z
      · exact absurd z a3'.2
      · exact z)
    have h2 := amt_er (q := q) (b := b) m
    rw [List.length_cons]
    have : (if b ≤ m then 1 else 0) ≤ 1 := by split <;> omega
    omega
def shM (sh : List Nat) : Nat := sh.foldl (fun s a => s ||| 2 ^ a) 0
theorem shM_f (v : Nat) : ∀ (sh : List Nat) (s : Nat), (sh.foldl (fun s a => s ||| 2 ^ a) s).testBit v = (s.testBit v || decide (v ∈ sh))
  | [], s => by simp
  | a :: sh, s => by
    rw [List.foldl_cons, shM_f v sh, Nat.testBit_or, Nat.testBit_two_pow, Bool.or_assoc]
    congr 1
    by_cases h : a = v
    · subst h; simp
    · rw [decide_eq_false h, Bool.false_or]
      congr 1
      simp [Ne.symm h]
theorem shM_b (sh : List Nat) (v : Nat) : (shM sh).testBit v = decide (v ∈ sh) := by unfold shM; rw [shM_f]; simp
theorem shM_lt {sh : List Nat} (h : ∀ a ∈ sh, a ≤ 15) : shM sh < 65536 := by
  have : shM sh < 2 ^ 16 := Nat.lt_pow_two_of_testBit _ (fun i hi => by rw [shM_b]; exact decide_eq_false (fun q => by have := h i q; omega))
  exact this
theorem shM_0 {sh : List Nat} (h : shM sh = 0) : sh = [] := by
  cases sh with
  | nil => rfl
  | cons a sh =>
    have := shM_b (a :: sh) a
    rw [h] at this
    simp at this
theorem shM_l {x : Int64} {sh : List Nat} (hx : ∀ v, v < 64 → lbit x v = decide (v ∈ sh)) (h : ∀ a ∈ sh, a ≤ 15) : x.toInt32 = nI (shM sh) := by
  apply Int32.toBitVec_inj.mp
  show x.toBitVec.signExtend 32 = BitVec.ofNat 32 (shM sh)
  apply BitVec.eq_of_getLsbD_eq
  intro i hi
  rw [BitVec.getLsbD_signExtend, if_pos (show i < 64 by omega), decide_eq_true hi, Bool.true_and, BitVec.getLsbD_ofNat, decide_eq_true hi, Bool.true_and, shM_b]
  exact hx i (by omega)
