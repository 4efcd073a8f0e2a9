/-! SPEC of positions: moves, values -/
abbrev Mv : Type := (Nat × Nat) ⊕ ((Nat × Nat × Nat) ⊕ Unit)
def Mv.take (h a : Nat) : Mv := .inl (h, a)
def Mv.both (h o a : Nat) : Mv := .inr (.inl (h, o, a))
def Mv.pass : Mv := .inr (.inr ())
def Mv.code (x : Mv) : Nat := match x with
  | .inl y => y.2 * 2 ^ (4 * y.1)
  | .inr (.inl y) => y.2.2 * (2 ^ (4 * y.1) + 2 ^ (4 * y.2.1))
  | .inr (.inr _) => 65536
def dig (p h : Nat) : Nat := p / 2 ^ (4 * h) % 16
def amt (q : Nat → Bool) : Nat → List Nat
  | 0 => []
  | n + 1 => amt q n ++ (if q (n + 1) then [n + 1] else [])
theorem mem_amt {q : Nat → Bool} {n a : Nat} : a ∈ amt q n ↔ 1 ≤ a ∧ a ≤ n ∧ q a = true := by
  induction n with
  | zero => simp [amt]; omega
  | succ n ih =>
    rw [amt, List.mem_append, ih]
    by_cases h : q (n + 1) = true
    · rw [if_pos h, List.mem_singleton]
      constructor
      · rintro (⟨h1, h2, h3⟩ | rfl)
        · exact ⟨h1, by omega, h3⟩
        · exact ⟨by omega, by omega, h⟩
      · rintro ⟨h1, h2, h3⟩
        rcases Nat.lt_or_ge n a with z | z
        · exact Or.inr (by omega)
        · exact Or.inl ⟨h1, z, h3⟩
    · rw [if_neg h]
      simp only [List.not_mem_nil, or_false]
      constructor
      · rintro ⟨h1, h2, h3⟩
        exact ⟨h1, by omega, h3⟩
      · rintro ⟨h1, h2, h3⟩
        rcases Nat.lt_or_ge n a with z | z
        · obtain rfl : a = n + 1 := by omega
          exact absurd h3 h
        · exact ⟨h1, z, h3⟩
theorem amt_mono (q : Nat → Bool) (n m : Nat) (h : n ≤ m) : (amt q n).length ≤ (amt q m).length := by
  induction m with
  | zero => obtain rfl : n = 0 := by omega
            exact Nat.le_refl _
  | succ m ih =>
    rcases Nat.lt_or_ge m n with z | z
    · obtain rfl : n = m + 1 := by omega
      exact Nat.le_refl _
    · rw [amt, List.length_append]
      have := ih z
      omega
theorem amt_cong {q q' : Nat → Bool} : ∀ {n : Nat}, (∀ a, 1 ≤ a → a ≤ n → q a = q' a) → amt q n = amt q' n
  | 0, _ => rfl
  | n + 1, h => by rw [amt, amt, amt_cong (n := n) (fun a h1 h2 => h a h1 (by omega)), h (n + 1) (by omega) (by omega)]
/-- what the moves hang on: how many heaps, what may be taken from a heap of n, the shared amounts, the ending -/
abbrev Cf : Type := Nat × (Nat → Nat → Nat → Bool) × (Nat → Bool) × Bool
abbrev Cf.m (c : Cf) : Nat := c.1
abbrev Cf.al (c : Cf) : Nat → Nat → Nat → Bool := c.2.1
abbrev Cf.sh (c : Cf) : Nat → Bool := c.2.2.1
abbrev Cf.mi (c : Cf) : Bool := c.2.2.2
def mvT (c : Cf) (p : Nat) : Nat → List Mv
  | 0 => []
  | h + 1 => mvT c p h ++ (amt (c.al h (dig p h)) (dig p h)).map (Mv.take h)
def mvS (c : Cf) (p h : Nat) : Nat → List Mv
  | 0 => []
  | o + 1 => mvS c p h o ++ (if h < o then (amt c.sh (min (dig p h) (dig p o))).map (Mv.both h o) else [])
def mvB (c : Cf) (p : Nat) : Nat → List Mv
  | 0 => []
  | h + 1 => mvB c p h ++ mvS c p h c.m
def mvP (c : Cf) (p : Nat) : List Mv := mvT c p c.m ++ mvB c p c.m
def mvs (c : Cf) (p : Nat) : List Mv := mvP c p ++ (if mvP c p ≠ [] ∧ 65536 ≤ p then [Mv.pass] else [])
def mvOK (c : Cf) (p : Nat) (x : Mv) : Prop := match x with
  | .inl y => y.1 < c.m ∧ 1 ≤ y.2 ∧ y.2 ≤ dig p y.1 ∧ c.al y.1 (dig p y.1) y.2 = true
  | .inr (.inl y) => y.1 < y.2.1 ∧ y.2.1 < c.m ∧ 1 ≤ y.2.2 ∧ y.2.2 ≤ dig p y.1 ∧ y.2.2 ≤ dig p y.2.1 ∧ c.sh y.2.2 = true
  | .inr (.inr _) => 65536 ≤ p
theorem mem_mvT {c : Cf} {p : Nat} {x : Mv} : ∀ {n : Nat}, n ≤ c.m → x ∈ mvT c p n → mvOK c p x
  | 0, _, h => by simp [mvT] at h
  | n + 1, hn, h => by
    rw [mvT, List.mem_append] at h
    rcases h with h | h
    · exact mem_mvT (by omega) h
    · rw [List.mem_map] at h
      obtain ⟨a, ha, rfl⟩ := h
      have := mem_amt.mp ha
      exact ⟨(by omega : n < c.m), this.1, this.2.1, this.2.2⟩
theorem mem_mvS {c : Cf} {p h : Nat} {x : Mv} : ∀ {n : Nat}, n ≤ c.m → x ∈ mvS c p h n → mvOK c p x
  | 0, _, h => by simp [mvS] at h
  | n + 1, hn, h => by
    rw [mvS, List.mem_append] at h
    rcases h with h | h
    · exact mem_mvS (by omega) h
    · split at h
      · rw [List.mem_map] at h
        obtain ⟨a, ha, rfl⟩ := h
        have := mem_amt.mp ha
        exact ⟨(by assumption : h < n), (by omega : n < c.m), this.1, (by have := this.2.1; omega : a ≤ dig p h), (by have := this.2.1; omega : a ≤ dig p n), this.2.2⟩
      · simp at h
theorem mem_mvB {c : Cf} {p : Nat} {x : Mv} : ∀ {n : Nat}, n ≤ c.m → x ∈ mvB c p n → mvOK c p x
  | 0, _, h => by simp [mvB] at h
  | n + 1, hn, h => by
    rw [mvB, List.mem_append] at h
    rcases h with h | h
    · exact mem_mvB (by omega) h
    · exact mem_mvS (Nat.le_refl _) h
theorem mem_mvs {c : Cf} {p : Nat} {x : Mv} (h : x ∈ mvs c p) : mvOK c p x := by
  unfold mvs mvP at h
  rw [List.mem_append, List.mem_append] at h
  rcases h with (h | h) | h
  · exact mem_mvT (Nat.le_refl _) h
  · exact mem_mvB (Nat.le_refl _) h
  · split at h
    · rename_i q
      rw [List.mem_singleton] at h
      subst h
      exact q.2
    · simp at h
def wt (p : Nat) : Nat := dig p 0 + dig p 1 + dig p 2 + dig p 3 + p / 65536
/-- no more of either -/
def lec (q p : Nat) : Prop := (∀ h, h < 4 → dig q h ≤ dig p h) ∧ q / 65536 ≤ p / 65536
theorem lec_iff {q p : Nat} : lec q p ↔ dig q 0 ≤ dig p 0 ∧ dig q 1 ≤ dig p 1 ∧ dig q 2 ≤ dig p 2 ∧ dig q 3 ≤ dig p 3 ∧ q / 65536 ≤ p / 65536 := by
  constructor
  · rintro ⟨h, h2⟩
    exact ⟨h 0 (by decide), h 1 (by decide), h 2 (by decide), h 3 (by decide), h2⟩
  · rintro ⟨h0, h1, h2, h3, h4⟩
    refine ⟨fun h hh => ?_, h4⟩
    rcases (show h = 0 ∨ h = 1 ∨ h = 2 ∨ h = 3 by omega) with rfl | rfl | rfl | rfl <;> assumption
theorem lec_refl (p : Nat) : lec p p := ⟨fun _ _ => Nat.le_refl _, Nat.le_refl _⟩
theorem lec_trans {a b c : Nat} (h1 : lec a b) (h2 : lec b c) : lec a c := ⟨fun h hh => Nat.le_trans (h1.1 h hh) (h2.1 h hh), Nat.le_trans h1.2 h2.2⟩
theorem dig0 (p : Nat) : dig p 0 = p % 16 := by simp [dig]
theorem dig1 (p : Nat) : dig p 1 = p / 16 % 16 := rfl
theorem dig2 (p : Nat) : dig p 2 = p / 256 % 16 := rfl
theorem dig3 (p : Nat) : dig p 3 = p / 4096 % 16 := rfl
def mk5 (a b c d q : Nat) : Nat := a + 16 * b + 256 * c + 4096 * d + 65536 * q
theorem mk5_0 {a b c d q : Nat} (ha : a < 16) : dig (mk5 a b c d q) 0 = a := by rw [dig0, mk5]; omega
theorem mk5_1 {a b c d q : Nat} (ha : a < 16) (hb : b < 16) : dig (mk5 a b c d q) 1 = b := by rw [dig1, mk5]; omega
theorem mk5_2 {a b c d q : Nat} (ha : a < 16) (hb : b < 16) (hc : c < 16) : dig (mk5 a b c d q) 2 = c := by rw [dig2, mk5]; omega
theorem mk5_3 {a b c d q : Nat} (ha : a < 16) (hb : b < 16) (hc : c < 16) (hd : d < 16) : dig (mk5 a b c d q) 3 = d := by rw [dig3, mk5]; omega
theorem mk5_q {a b c d q : Nat} (ha : a < 16) (hb : b < 16) (hc : c < 16) (hd : d < 16) : mk5 a b c d q / 65536 = q := by rw [mk5]; omega
theorem dig_lt (p h : Nat) : dig p h < 16 := Nat.mod_lt _ (by decide)
theorem mk5_p (p : Nat) : p = mk5 (dig p 0) (dig p 1) (dig p 2) (dig p 3) (p / 65536) := by rw [mk5, dig0, dig1, dig2, dig3]; omega
theorem mk5_ex (p : Nat) : ∃ a b c d q, a < 16 ∧ b < 16 ∧ c < 16 ∧ d < 16 ∧ p = mk5 a b c d q := ⟨_, _, _, _, _, dig_lt p 0, dig_lt p 1, dig_lt p 2, dig_lt p 3, mk5_p p⟩
theorem mk5_wt {a b c d q : Nat} (ha : a < 16) (hb : b < 16) (hc : c < 16) (hd : d < 16) : wt (mk5 a b c d q) = a + b + c + d + q := by
  rw [wt, mk5_0 ha, mk5_1 ha hb, mk5_2 ha hb hc, mk5_3 ha hb hc hd, mk5_q ha hb hc hd]
theorem mk5_lec {a b c d q a' b' c' d' q' : Nat} (ha : a < 16) (hb : b < 16) (hc : c < 16) (hd : d < 16) (ha' : a' < 16) (hb' : b' < 16) (hc' : c' < 16) (hd' : d' < 16) : lec (mk5 a' b' c' d' q') (mk5 a b c d q) ↔ a' ≤ a ∧ b' ≤ b ∧ c' ≤ c ∧ d' ≤ d ∧ q' ≤ q := by
  rw [lec_iff, mk5_0 ha, mk5_1 ha hb, mk5_2 ha hb hc, mk5_3 ha hb hc hd, mk5_q ha hb hc hd, mk5_0 ha', mk5_1 ha' hb', mk5_2 ha' hb' hc', mk5_3 ha' hb' hc' hd', mk5_q ha' hb' hc' hd']
theorem mv_wt_of {x a b c d q a' b' c' d' q' : Nat} (ha : a < 16) (hb : b < 16) (hc : c < 16) (hd : d < 16) (h0 : a' ≤ a) (h1 : b' ≤ b) (h2 : c' ≤ c) (h3 : d' ≤ d) (h4 : q' ≤ q) (hx : x = mk5 (a - a') (b - b') (c - c') (d - d') (q - q')) (hs : 1 ≤ a' + b' + c' + d' + q') : wt x < wt (mk5 a b c d q) ∧ lec x (mk5 a b c d q) := by
  subst hx
  rw [mk5_wt ha hb hc hd, mk5_wt (by omega) (by omega) (by omega) (by omega), mk5_lec ha hb hc hd (by omega) (by omega) (by omega) (by omega)]
  omega
theorem mv_wt {c : Cf} {p : Nat} (hm : c.m ≤ 4) {x : Mv} (hx : mvOK c p x) : 1 ≤ x.code ∧ x.code ≤ p ∧ wt (p - x.code) < wt p ∧ lec (p - x.code) p := by
  obtain ⟨A, B, C, D, q, hA, hB, hC, hD, rfl⟩ := mk5_ex p
  rcases x with ⟨h, a⟩ | ⟨h, o, a⟩ | ⟨⟩
  · obtain ⟨h1, h2, h3, _⟩ : h < c.m ∧ 1 ≤ a ∧ a ≤ dig (mk5 A B C D q) h ∧ c.al h (dig (mk5 A B C D q) h) a = true := hx
    show 1 ≤ a * 2 ^ (4 * h) ∧ a * 2 ^ (4 * h) ≤ _ ∧ wt (_ - a * 2 ^ (4 * h)) < wt _ ∧ lec (_ - a * 2 ^ (4 * h)) _
    rcases (show h = 0 ∨ h = 1 ∨ h = 2 ∨ h = 3 by omega) with rfl | rfl | rfl | rfl
    · rw [mk5_0 hA] at h3
      refine ⟨by omega, by rw [mk5]; omega, mv_wt_of (a' := a) (b' := 0) (c' := 0) (d' := 0) (q' := 0) hA hB hC hD h3 (by omega) (by omega) (by omega) (by omega) (by rw [mk5, mk5]; omega) (by omega)⟩
    · rw [mk5_1 hA hB] at h3
      refine ⟨by omega, by rw [mk5]; omega, mv_wt_of (a' := 0) (b' := a) (c' := 0) (d' := 0) (q' := 0) hA hB hC hD (by omega) h3 (by omega) (by omega) (by omega) (by rw [mk5, mk5]; omega) (by omega)⟩
    · rw [mk5_2 hA hB hC] at h3
      refine ⟨by omega, by rw [mk5]; omega, mv_wt_of (a' := 0) (b' := 0) (c' := a) (d' := 0) (q' := 0) hA hB hC hD (by omega) (by omega) h3 (by omega) (by omega) (by rw [mk5, mk5]; omega) (by omega)⟩
    · rw [mk5_3 hA hB hC hD] at h3
      refine ⟨by omega, by rw [mk5]; omega, mv_wt_of (a' := 0) (b' := 0) (c' := 0) (d' := a) (q' := 0) hA hB hC hD (by omega) (by omega) (by omega) h3 (by omega) (by rw [mk5, mk5]; omega) (by omega)⟩
  · obtain ⟨h1, h2, h3, h4, h5, _⟩ : h < o ∧ o < c.m ∧ 1 ≤ a ∧ a ≤ dig (mk5 A B C D q) h ∧ a ≤ dig (mk5 A B C D q) o ∧ c.sh a = true := hx
    show 1 ≤ a * (2 ^ (4 * h) + 2 ^ (4 * o)) ∧ a * (2 ^ (4 * h) + 2 ^ (4 * o)) ≤ _ ∧ wt (_ - a * (2 ^ (4 * h) + 2 ^ (4 * o))) < wt _ ∧ lec (_ - a * (2 ^ (4 * h) + 2 ^ (4 * o))) _
    have hx : (h = 0 ∧ o = 1) ∨ (h = 0 ∧ o = 2) ∨ (h = 0 ∧ o = 3) ∨ (h = 1 ∧ o = 2) ∨ (h = 1 ∧ o = 3) ∨ (h = 2 ∧ o = 3) := by omega
    rcases hx with ⟨rfl, rfl⟩ | ⟨rfl, rfl⟩ | ⟨rfl, rfl⟩ | ⟨rfl, rfl⟩ | ⟨rfl, rfl⟩ | ⟨rfl, rfl⟩
    · rw [mk5_0 hA] at h4; rw [mk5_1 hA hB] at h5
      refine ⟨by omega, by rw [mk5]; omega, mv_wt_of (a' := a) (b' := a) (c' := 0) (d' := 0) (q' := 0) hA hB hC hD (by omega) (by omega) (by omega) (by omega) (by omega) (by rw [mk5, mk5]; omega) (by omega)⟩
    · rw [mk5_0 hA] at h4; rw [mk5_2 hA hB hC] at h5
      refine ⟨by omega, by rw [mk5]; omega, mv_wt_of (a' := a) (b' := 0) (c' := a) (d' := 0) (q' := 0) hA hB hC hD (by omega) (by omega) (by omega) (by omega) (by omega) (by rw [mk5, mk5]; omega) (by omega)⟩
    · rw [mk5_0 hA] at h4; rw [mk5_3 hA hB hC hD] at h5
      refine ⟨by omega, by rw [mk5]; omega, mv_wt_of (a' := a) (b' := 0) (c' := 0) (d' := a) (q' := 0) hA hB hC hD (by omega) (by omega) (by omega) (by omega) (by omega) (by rw [mk5, mk5]; omega) (by omega)⟩
    · rw [mk5_1 hA hB] at h4; rw [mk5_2 hA hB hC] at h5
      refine ⟨by omega, by rw [mk5]; omega, mv_wt_of (a' := 0) (b' := a) (c' := a) (d' := 0) (q' := 0) hA hB hC hD (by omega) (by omega) (by omega) (by omega) (by omega) (by rw [mk5, mk5]; omega) (by omega)⟩
    · rw [mk5_1 hA hB] at h4; rw [mk5_3 hA hB hC hD] at h5
      refine ⟨by omega, by rw [mk5]; omega, mv_wt_of (a' := 0) (b' := a) (c' := 0) (d' := a) (q' := 0) hA hB hC hD (by omega) (by omega) (by omega) (by omega) (by omega) (by rw [mk5, mk5]; omega) (by omega)⟩
    · rw [mk5_2 hA hB hC] at h4; rw [mk5_3 hA hB hC hD] at h5
      refine ⟨by omega, by rw [mk5]; omega, mv_wt_of (a' := 0) (b' := 0) (c' := a) (d' := a) (q' := 0) hA hB hC hD (by omega) (by omega) (by omega) (by omega) (by omega) (by rw [mk5, mk5]; omega) (by omega)⟩
  · have h : 65536 ≤ mk5 A B C D q := hx
    show 1 ≤ 65536 ∧ 65536 ≤ _ ∧ wt (_ - 65536) < wt _ ∧ lec (_ - 65536) _
    have hq : 1 ≤ q := by rw [mk5] at h; omega
    exact ⟨by omega, h, mv_wt_of (a' := 0) (b' := 0) (c' := 0) (d' := 0) (q' := 1) hA hB hC hD (by omega) (by omega) (by omega) (by omega) (by omega) (by rw [mk5, mk5]; omega) (by omega)⟩
/-- won, how long, value -/
abbrev Rs : Type := Bool × Nat × Nat
def lostMin (os : List Rs) : Nat := os.foldl (fun a x => if x.1 then a else min a x.2.1) 64
def allMax (os : List Rs) : Nat := os.foldl (fun a x => max a x.2.1) 0
def hitO (os : List Rs) (v : Nat) : Bool := os.any (fun x => decide (x.2.2 = v))
def comb (mi : Bool) (os : List Rs) : Rs := if os = [] then (mi, 0, 0) else
  (decide (lostMin os < 64), 1 + (if lostMin os < 64 then lostMin os else allMax os), firstN (hitO os) 64 0)
def valF (c : Cf) : Nat → Nat → Rs
  | 0, _ => (false, 0, 0)
  | f + 1, p => comb c.mi ((mvs c p).map (fun x => valF c f (p - x.code)))
def val (c : Cf) (p : Nat) : Rs := valF c (p + 1) p
theorem valF_val {c : Cf} (hm : c.m ≤ 4) : ∀ f p, p < f → valF c f p = val c p := by
  intro f
  induction f using Nat.strongRecOn with
  | _ f ih =>
    intro p hp
    match f, ih, hp with
    | f + 1, ih, hp =>
      show comb _ _ = comb _ _
      congr 1
      apply List.map_congr_left
      intro x hx
      obtain ⟨h1, h2, _⟩ := mv_wt hm (mem_mvs hx)
      rw [ih f (by omega) (p - x.code) (by omega)]
      rcases Nat.lt_or_ge p f with z | z
      · exact (ih p (by omega) (p - x.code) (by omega)).symm
      · obtain rfl : p = f := by omega
        exact (ih p (by omega) (p - x.code) (by omega)).symm
theorem val_eq {c : Cf} (hm : c.m ≤ 4) (p : Nat) : val c p = comb c.mi ((mvs c p).map (fun x => val c (p - x.code))) := by
  show comb _ _ = comb _ _
  congr 1
  apply List.map_congr_left
  intro x hx
  obtain ⟨h1, h2, _⟩ := mv_wt hm (mem_mvs hx)
  exact valF_val hm _ _ (by omega)
theorem lostMin_snoc (os : List Rs) (x : Rs) : lostMin (os ++ [x]) = if x.1 then lostMin os else min (lostMin os) x.2.1 := by unfold lostMin; rw [List.foldl_append]; rfl
theorem allMax_snoc (os : List Rs) (x : Rs) : allMax (os ++ [x]) = max (allMax os) x.2.1 := by unfold allMax; rw [List.foldl_append]; rfl
theorem hitO_snoc (os : List Rs) (x : Rs) (v : Nat) : hitO (os ++ [x]) v = (hitO os v || decide (x.2.2 = v)) := by unfold hitO; rw [List.any_append]; simp
theorem snoc_ind {α : Type} {P : List α → Prop} (h0 : P []) (h1 : ∀ l x, P l → P (l ++ [x])) (l : List α) : P l := by
  have : ∀ l : List α, P l.reverse := by
    intro l
    induction l with
    | nil => exact h0
    | cons x xs ih => rw [List.reverse_cons]; exact h1 _ _ ih
  have h := this l.reverse
  rwa [List.reverse_reverse] at h
theorem lostMin_le {os : List Rs} {k : Nat} (h : ∀ x ∈ os, x.2.1 ≤ k) : lostMin os = 64 ∨ lostMin os ≤ k := by
  induction os using snoc_ind with
  | h0 => exact Or.inl rfl
  | h1 l x ih =>
    have h2 := h x (by simp)
    have h3 := ih (fun y hy => h y (by simp [hy]))
    rw [lostMin_snoc]
    split
    · exact h3
    · right; omega
theorem allMax_le {os : List Rs} {k : Nat} (h : ∀ x ∈ os, x.2.1 ≤ k) : allMax os ≤ k := by
  induction os using snoc_ind with
  | h0 => exact Nat.zero_le _
  | h1 l x ih =>
    have h2 := h x (by simp)
    have h3 := ih (fun y hy => h y (by simp [hy]))
    rw [allMax_snoc]
    omega
theorem val_le {c : Cf} (hm : c.m ≤ 4) : ∀ p, (val c p).2.1 ≤ wt p ∧ (val c p).2.2 ≤ wt p := by
  intro p
  induction p using Nat.strongRecOn with
  | _ p ih =>
    rw [val_eq hm]
    unfold comb
    split
    · exact ⟨Nat.zero_le _, Nat.zero_le _⟩
    · rename_i hne
      have hb : ∀ x ∈ (mvs c p).map (fun x => val c (p - x.code)), x.2.1 + 1 ≤ wt p ∧ x.2.2 + 1 ≤ wt p := by
        intro x hx
        obtain ⟨y, hy, rfl⟩ := List.mem_map.mp hx
        obtain ⟨h1, h2, h3, _⟩ := mv_wt hm (mem_mvs hy)
        have := ih (p - y.code) (by omega)
        omega
      have hw : 1 ≤ wt p := by
        obtain ⟨x, hx⟩ := List.exists_mem_of_ne_nil _ hne
        have := hb x hx
        omega
      refine ⟨?_, ?_⟩
      · show 1 + _ ≤ _
        split
        · rename_i h
          rcases lostMin_le (k := wt p - 1) (fun x hx => by have := hb x hx; omega) with h4 | h4 <;> omega
        · have := allMax_le (k := wt p - 1) (os := (mvs c p).map (fun x => val c (p - x.code))) (fun x hx => by have := hb x hx; omega)
          omega
      · show firstN _ _ _ ≤ _
        rcases Nat.lt_or_ge (wt p) (firstN (hitO ((mvs c p).map fun x => val c (p - x.code))) 64 0) with z | z
        · have h5 := firstN_all _ 64 0 (wt p) (Nat.zero_le _) z
          unfold hitO at h5
          rw [List.any_eq_true] at h5
          obtain ⟨x, hx, h6⟩ := h5
          have := hb x hx
          have := of_decide_eq_true h6
          omega
        · exact z
theorem wt_le {p : Nat} (h : p < 262144) : wt p ≤ 63 := by
  unfold wt
  simp only [dig0, dig1, dig2, dig3]
  omega
/-- the options' values, as they come -/
def opv (c : Cf) (p : Nat) : List Rs := (mvs c p).map (fun x => val c (p - x.code))
theorem opv_lt {c : Cf} (hm : c.m ≤ 4) {p : Nat} (hp : p < 262144) {x : Rs} (hx : x ∈ opv c p) : x.2.1 < 63 ∧ x.2.2 < 63 := by
  obtain ⟨y, hy, rfl⟩ := List.mem_map.mp hx
  obtain ⟨h1, h2, h3, _⟩ := mv_wt hm (mem_mvs hy)
  have := val_le hm (p - y.code)
  have := wt_le hp
  omega
def enc (r : Rs) : Nat := (if r.1 then 4096 else 0) + 64 * r.2.1 + r.2.2
theorem enc_lt {c : Cf} (hm : c.m ≤ 4) {p : Nat} (hp : p < 262144) : enc (val c p) < 8192 := by
  have := val_le hm p
  have := wt_le hp
  unfold enc
  split <;> omega
/-- how many moves at most -/
def Cf.ok (c : Cf) : Prop := c.m ≤ 4 ∧ (∀ h, h < c.m → ∀ n, n < 16 → (amt (c.al h n) n).length ≤ 8) ∧ ∀ n, n < 16 → (amt c.sh n).length ≤ 8
theorem mvT_len {c : Cf} (hc : c.ok) (p : Nat) : ∀ n, n ≤ c.m → (mvT c p n).length ≤ 8 * n
  | 0, _ => Nat.le_refl _
  | n + 1, hn => by
    rw [mvT, List.length_append, List.length_map]
    have := mvT_len hc p n (by omega)
    have := hc.2.1 n (by omega) _ (dig_lt p n)
    omega
def pairs (h : Nat) : Nat → Nat
  | 0 => 0
  | o + 1 => pairs h o + if h < o then 1 else 0
theorem mvS_len {c : Cf} (hc : c.ok) (p h : Nat) : ∀ n, (mvS c p h n).length ≤ 8 * pairs h n
  | 0 => Nat.le_refl _
  | n + 1 => by
    rw [mvS, List.length_append, pairs]
    have := mvS_len hc p h n
    split
    · rw [List.length_map]
      have := hc.2.2 (min (dig p h) (dig p n)) (by have := dig_lt p h; omega)
      omega
    · simp only [List.length_nil]
      omega
def pairsB (m : Nat) : Nat → Nat
  | 0 => 0
  | h + 1 => pairsB m h + pairs h m
theorem mvB_len {c : Cf} (hc : c.ok) (p : Nat) : ∀ n, (mvB c p n).length ≤ 8 * pairsB c.m n
  | 0 => Nat.le_refl _
  | n + 1 => by
    rw [mvB, List.length_append, pairsB]
    have := mvB_len hc p n
    have := mvS_len hc p n c.m
    omega
theorem pairs_le : ∀ m, m ≤ 4 → ∀ h, h ≤ m → pairsB m h ≤ 6 := by decide
theorem pairs_le2 : ∀ m, m ≤ 4 → ∀ h, h < m → ∀ o, o < m → h < o → pairsB m h + pairs h o + 1 ≤ 6 := by decide
