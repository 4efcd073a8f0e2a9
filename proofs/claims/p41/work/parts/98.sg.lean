/-! the normal ending; the value of heaps together -/
theorem lost_ex {os : List Rs} (hb : ∀ x ∈ os, x.2.1 < 63) : lostMin os < 64 ↔ ∃ x ∈ os, x.1 = false := by
  induction os using snoc_ind with
  | h0 =>
    constructor
    · intro h; exact absurd h (by decide)
    · rintro ⟨x, hx, _⟩; cases hx
  | h1 l x ih =>
    have h1 := hb x (by simp)
    have h2 := ih (fun y hy => hb y (by simp [hy]))
    rw [lostMin_snoc]
    cases hx : x.1 with
    | true =>
      rw [if_pos rfl, h2]
      constructor
      · rintro ⟨y, hy, h3⟩; exact ⟨y, by simp [hy], h3⟩
      · rintro ⟨y, hy, h3⟩
        rcases List.mem_append.mp hy with q | q
        · exact ⟨y, q, h3⟩
        · rw [List.mem_singleton] at q
          subst q
          rw [hx] at h3; cases h3
    | false =>
      rw [if_neg (by decide)]
      constructor
      · intro _; exact ⟨x, by simp, hx⟩
      · intro _; omega
theorem hitO_iff {os : List Rs} {v : Nat} : hitO os v = true ↔ ∃ x ∈ os, x.2.2 = v := by
  unfold hitO
  rw [List.any_eq_true]
  constructor
  · rintro ⟨x, hx, h⟩; exact ⟨x, hx, of_decide_eq_true h⟩
  · rintro ⟨x, hx, h⟩; exact ⟨x, hx, decide_eq_true h⟩
theorem val_opv {c : Cf} (hm : c.m ≤ 4) (p : Nat) : val c p = comb c.mi (opv c p) := val_eq hm p
/-- by the normal ending what is not 0 is won -/
theorem val_norm {c : Cf} (hm : c.m ≤ 4) (hmi : c.mi = false) : ∀ p, p < 262144 → (val c p).1 = decide ((val c p).2.2 ≠ 0) := by
  intro p
  induction p using Nat.strongRecOn with
  | _ p ih =>
    intro hp
    have hb : ∀ x ∈ opv c p, x.2.1 < 63 ∧ x.2.2 < 63 := fun x hx => opv_lt hm hp hx
    have hx : ∀ x ∈ opv c p, x.1 = decide (x.2.2 ≠ 0) := by
      intro x hx
      obtain ⟨y, hy, rfl⟩ := List.mem_map.mp hx
      obtain ⟨h1, h2, -, -⟩ := mv_wt hm (mem_mvs hy)
      exact ih (p - y.code) (by omega) (by omega)
    rw [val_opv hm]
    by_cases hne : opv c p = []
    · rw [hne, comb_nil, hmi]; rfl
    · unfold comb
      rw [if_neg hne]
      show decide (lostMin (opv c p) < 64) = decide (firstN (hitO (opv c p)) 64 0 ≠ 0)
      rw [decide_eq_decide, lost_ex (fun x h => (hb x h).1)]
      constructor
      · rintro ⟨x, h1, h2⟩ h3
        have h4 := hx x h1
        rw [h2] at h4
        have h5 : x.2.2 = 0 := by
          rcases Nat.eq_zero_or_pos x.2.2 with q | q
          · exact q
          · rw [decide_eq_true (by omega)] at h4; cases h4
        have h6 := firstN_not (hitO (opv c p)) 64 0 (by omega)
        rw [h3, hitO_iff.mpr ⟨x, h1, h5⟩] at h6
        cases h6
      · intro h3
        have h4 := firstN_all (hitO (opv c p)) 64 0 0 (Nat.le_refl _) (by omega)
        obtain ⟨x, h5, h6⟩ := hitO_iff.mp h4
        exact ⟨x, h5, by rw [hx x h5, h6]; rfl⟩
theorem xor_inj : ∀ d, d < 16 → ∀ u, u < 16 → ∀ v, v < 16 → u ^^^ d = v ^^^ d → u = v := by decide +kernel
theorem xor_lt16 : ∀ a, a < 16 → ∀ b, b < 16 → a ^^^ b < 16 := by decide +kernel
theorem xor_lowB : ((List.range 16).all fun x => (List.range 16).all fun y => (List.range 16).all fun z => (List.range 16).all fun j => !decide (j < x ^^^ y ^^^ z) || (decide (j ^^^ y ^^^ z < x) || (decide (j ^^^ x ^^^ z < y) || decide (j ^^^ x ^^^ y < z)))) = true := by decide +kernel
theorem xor_low (x : Nat) (hx : x < 16) (y : Nat) (hy : y < 16) (z : Nat) (hz : z < 16) (j : Nat) (hj : j < 16) (h : j < x ^^^ y ^^^ z) : j ^^^ y ^^^ z < x ∨ j ^^^ x ^^^ z < y ∨ j ^^^ x ^^^ y < z := by
  have h1 := List.all_eq_true.mp xor_lowB x (List.mem_range.mpr hx)
  have h2 := List.all_eq_true.mp h1 y (List.mem_range.mpr hy)
  have h3 := List.all_eq_true.mp h2 z (List.mem_range.mpr hz)
  have h4 := List.all_eq_true.mp h3 j (List.mem_range.mpr hj)
  rw [decide_eq_true h, Bool.not_true, Bool.false_or, Bool.or_eq_true, Bool.or_eq_true, decide_eq_true_eq, decide_eq_true_eq, decide_eq_true_eq] at h4
  exact h4
theorem xor_bk : ∀ y, y < 16 → ∀ z, z < 16 → ∀ j, j < 16 → (j ^^^ y ^^^ z) ^^^ y ^^^ z = j ∧ y ^^^ (j ^^^ y ^^^ z) ^^^ z = j ∧ y ^^^ z ^^^ (j ^^^ y ^^^ z) = j := by decide +kernel
/-- what a heap of a kind is worth -/
def mexG (c : Cf) (G : Nat → Nat → Nat) : Prop := ∀ h, h < c.m → ∀ n, n < 16 → G h n < 16 ∧ (∀ a, 1 ≤ a → a ≤ n → c.al h n a = true → G h (n - a) ≠ G h n) ∧ ∀ v, v < G h n → ∃ a, 1 ≤ a ∧ a ≤ n ∧ c.al h n a = true ∧ G h (n - a) = v
def hpG (c : Cf) (G : Nat → Nat → Nat) (p h : Nat) : Nat := if h < c.m then G h (dig p h) else 0
def smG (c : Cf) (G : Nat → Nat → Nat) (p : Nat) : Nat := hpG c G p 0 ^^^ hpG c G p 1 ^^^ hpG c G p 2
theorem mvT_in {c : Cf} {p h a : Nat} (h1 : 1 ≤ a) (h2 : a ≤ dig p h) (h3 : c.al h (dig p h) a = true) : ∀ n, h < n → Mv.take h a ∈ mvT c p n
  | 0, hn => by omega
  | n + 1, hn => by
    rw [mvT, List.mem_append]
    rcases Nat.lt_or_ge h n with q | q
    · exact Or.inl (mvT_in h1 h2 h3 n q)
    · obtain rfl : h = n := by omega
      exact Or.inr (List.mem_map.mpr ⟨a, mem_amt.mpr ⟨h1, h2, h3⟩, rfl⟩)
theorem dig_take {p a : Nat} : (a ≤ dig p 0 → dig (p - a * 2 ^ (4 * 0)) 0 = dig p 0 - a ∧ dig (p - a * 2 ^ (4 * 0)) 1 = dig p 1 ∧ dig (p - a * 2 ^ (4 * 0)) 2 = dig p 2) ∧
    (a ≤ dig p 1 → dig (p - a * 2 ^ (4 * 1)) 0 = dig p 0 ∧ dig (p - a * 2 ^ (4 * 1)) 1 = dig p 1 - a ∧ dig (p - a * 2 ^ (4 * 1)) 2 = dig p 2) ∧
    (a ≤ dig p 2 → dig (p - a * 2 ^ (4 * 2)) 0 = dig p 0 ∧ dig (p - a * 2 ^ (4 * 2)) 1 = dig p 1 ∧ dig (p - a * 2 ^ (4 * 2)) 2 = dig p 2 - a) := by
  simp only [dig0, dig1, dig2]
  refine ⟨fun h => ?_, fun h => ?_, fun h => ?_⟩
  · rw [show 2 ^ (4 * 0) = 1 from rfl]; omega
  · rw [show 2 ^ (4 * 1) = 16 from rfl]; omega
  · rw [show 2 ^ (4 * 2) = 256 from rfl]; omega
theorem hpG_lt {c : Cf} {G : Nat → Nat → Nat} (hG : mexG c G) (p h : Nat) : hpG c G p h < 16 := by
  unfold hpG
  split
  · rename_i q
    exact (hG h q _ (dig_lt p h)).1
  · decide
theorem smG_lt {c : Cf} {G : Nat → Nat → Nat} (hG : mexG c G) (p : Nat) : smG c G p < 16 := xor_lt16 _ (xor_lt16 _ (hpG_lt hG p 0) _ (hpG_lt hG p 1)) _ (hpG_lt hG p 2)
/-- one heap less -/
theorem smG_take {c : Cf} {G : Nat → Nat → Nat} (hm : c.m ≤ 3) {p h a : Nat} (hh : h < c.m) (ha : a ≤ dig p h) :
    (h = 0 ∧ smG c G (p - a * 2 ^ (4 * h)) = G 0 (dig p 0 - a) ^^^ hpG c G p 1 ^^^ hpG c G p 2) ∨ (h = 1 ∧ smG c G (p - a * 2 ^ (4 * h)) = hpG c G p 0 ^^^ G 1 (dig p 1 - a) ^^^ hpG c G p 2) ∨ (h = 2 ∧ smG c G (p - a * 2 ^ (4 * h)) = hpG c G p 0 ^^^ hpG c G p 1 ^^^ G 2 (dig p 2 - a)) := by
  obtain ⟨d0, d1, d2⟩ := dig_take (p := p) (a := a)
  rcases (show h = 0 ∨ h = 1 ∨ h = 2 by omega) with rfl | rfl | rfl
  · obtain ⟨e0, e1, e2⟩ := d0 ha
    refine Or.inl ⟨rfl, ?_⟩
    unfold smG hpG
    rw [e0, e1, e2, if_pos hh]
  · obtain ⟨e0, e1, e2⟩ := d1 ha
    refine Or.inr (Or.inl ⟨rfl, ?_⟩)
    unfold smG hpG
    rw [e0, e1, e2, if_pos hh]
  · obtain ⟨e0, e1, e2⟩ := d2 ha
    refine Or.inr (Or.inr ⟨rfl, ?_⟩)
    unfold smG hpG
    rw [e0, e1, e2, if_pos hh]
theorem val_sum {c : Cf} {G : Nat → Nat → Nat} (hm : c.m ≤ 3) (hG : mexG c G) (hsh : ∀ a, c.sh a = false) : ∀ p, p < 65536 → (val c p).2.2 = smG c G p := by
  intro p
  induction p using Nat.strongRecOn with
  | _ p ih =>
    intro hp
    have hval : (val c p).2.2 = firstN (hitO (opv c p)) 64 0 := by
      rw [val_opv (by omega)]
      unfold comb
      split
      · rename_i q
        rw [q]; rfl
      · rfl
    have l0 := hpG_lt hG p 0
    have l1 := hpG_lt hG p 1
    have l2 := hpG_lt hG p 2
    have lX := smG_lt hG p
    rw [hval]
    refine firstN_uniq _ (fun j _ hj => ?_) ?_ (Nat.zero_le _) (by omega)
    · have go : ∀ h, h < c.m → ∀ v, v < G h (dig p h) → (∀ a, 1 ≤ a → a ≤ dig p h → G h (dig p h - a) = v → smG c G (p - a * 2 ^ (4 * h)) = j) → hitO (opv c p) j = true := by
        intro h hh v hv hs
        obtain ⟨a, a1, a2, a3, a4⟩ := (hG h hh _ (dig_lt p h)).2.2 v hv
        have hin : Mv.take h a ∈ mvs c p := by
          unfold mvs mvP
          rw [List.mem_append, List.mem_append]
          exact Or.inl (Or.inl (mvT_in a1 a2 a3 _ hh))
        obtain ⟨w1, w2, -, -⟩ := mv_wt (by omega : c.m ≤ 4) (mem_mvs hin)
        refine hitO_iff.mpr ⟨_, List.mem_map.mpr ⟨_, hin, rfl⟩, ?_⟩
        rw [ih (p - (Mv.take h a).code) (by omega) (by omega)]
        exact hs a a1 a2 a4
      have hjX : j < hpG c G p 0 ^^^ hpG c G p 1 ^^^ hpG c G p 2 := hj
      have b0 := xor_bk _ l1 _ l2 j (by omega)
      have b1 := xor_bk _ l0 _ l2 j (by omega)
      have b2 := xor_bk _ l0 _ l1 j (by omega)
      rcases xor_low _ l0 _ l1 _ l2 j (by omega) hjX with q | q | q
      · have hh : 0 < c.m := by
          rcases Nat.lt_or_ge 0 c.m with z | z
          · exact z
          · have e : hpG c G p 0 = 0 := if_neg (by omega)
            omega
        have e : hpG c G p 0 = G 0 (dig p 0) := if_pos hh
        refine go 0 hh _ (by rw [← e]; exact q) (fun a a1 a2 a4 => ?_)
        rcases smG_take (G := G) hm hh a2 with ⟨_, z⟩ | ⟨z, _⟩ | ⟨z, _⟩
        · rw [z, a4]; exact b0.1
        · cases z
        · cases z
      · have hh : 1 < c.m := by
          rcases Nat.lt_or_ge 1 c.m with z | z
          · exact z
          · have e : hpG c G p 1 = 0 := if_neg (by omega)
            omega
        have e : hpG c G p 1 = G 1 (dig p 1) := if_pos hh
        refine go 1 hh _ (by rw [← e]; exact q) (fun a a1 a2 a4 => ?_)
        rcases smG_take (G := G) hm hh a2 with ⟨z, _⟩ | ⟨_, z⟩ | ⟨z, _⟩
        · cases z
        · rw [z, a4]; exact b1.2.1
        · cases z
      · have hh : 2 < c.m := by
          rcases Nat.lt_or_ge 2 c.m with z | z
          · exact z
          · have e : hpG c G p 2 = 0 := if_neg (by omega)
            omega
        have e : hpG c G p 2 = G 2 (dig p 2) := if_pos hh
        refine go 2 hh _ (by rw [← e]; exact q) (fun a a1 a2 a4 => ?_)
        rcases smG_take (G := G) hm hh a2 with ⟨z, _⟩ | ⟨z, _⟩ | ⟨_, z⟩
        · cases z
        · cases z
        · rw [z, a4]; exact b2.2.2
    · cases hc : hitO (opv c p) (smG c G p) with
      | false => rfl
      | true =>
        exfalso
        obtain ⟨x, hx, hv⟩ := hitO_iff.mp hc
        obtain ⟨y, hy, rfl⟩ := List.mem_map.mp hx
        have hok := mem_mvs hy
        obtain ⟨w1, w2, -, -⟩ := mv_wt (by omega : c.m ≤ 4) hok
        rw [ih (p - y.code) (by omega) (by omega)] at hv
        rcases y with ⟨h, a⟩ | ⟨h, o, a⟩ | ⟨⟩
        · obtain ⟨h1, h2, h3, h4⟩ : h < c.m ∧ 1 ≤ a ∧ a ≤ dig p h ∧ c.al h (dig p h) a = true := hok
          have hne := (hG h h1 _ (dig_lt p h)).2.1 a h2 h3 h4
          have hl := (hG h h1 (dig p h - a) (by have := dig_lt p h; omega)).1
          have hl2 := (hG h h1 (dig p h) (dig_lt p h)).1
          have hv' : smG c G (p - a * 2 ^ (4 * h)) = smG c G p := hv
          rcases smG_take (G := G) hm h1 h3 with ⟨rfl, z⟩ | ⟨rfl, z⟩ | ⟨rfl, z⟩
          · rw [z] at hv'
            have e : hpG c G p 0 = G 0 (dig p 0) := if_pos h1
            unfold smG at hv'
            rw [e, Nat.xor_assoc, Nat.xor_assoc] at hv'
            exact hne (xor_inj _ (xor_lt16 _ l1 _ l2) _ hl _ hl2 hv')
          · rw [z] at hv'
            have e : hpG c G p 1 = G 1 (dig p 1) := if_pos h1
            unfold smG at hv'
            rw [e, Nat.xor_comm (hpG c G p 0), Nat.xor_comm (hpG c G p 0), Nat.xor_assoc, Nat.xor_assoc] at hv'
            exact hne (xor_inj _ (xor_lt16 _ l0 _ l2) _ hl _ hl2 hv')
          · rw [z] at hv'
            have e : hpG c G p 2 = G 2 (dig p 2) := if_pos h1
            unfold smG at hv'
            rw [e, Nat.xor_comm _ (G 2 _), Nat.xor_comm _ (G 2 _)] at hv'
            exact hne (xor_inj _ (xor_lt16 _ l0 _ l1) _ hl _ hl2 hv')
        · obtain ⟨_, _, _, _, _, h6⟩ : h < o ∧ o < c.m ∧ 1 ≤ a ∧ a ≤ dig p h ∧ a ≤ dig p o ∧ c.sh a = true := hok
          rw [hsh] at h6; cases h6
        · have h6 : 65536 ≤ p := hok
          omega
/-- the values of heaps by a rule -/
def gvA (A : AS) (h n : Nat) : Nat := gv (A.ru.1 (A.st.rl h)) (A.ru.2.1 (A.st.rl h)) n
theorem gv_mex {k : Nat} {S : Nat → Bool} {n : Nat} (hn : n < 16) : gv k S n < 16 ∧ (∀ a, 1 ≤ a → a ≤ n → okA k S n a = true → gv k S (n - a) ≠ gv k S n) ∧ ∀ v, v < gv k S n → ∃ a, 1 ≤ a ∧ a ≤ n ∧ okA k S n a = true ∧ gv k S (n - a) = v := by
  have hle := gv_le k S n
  have he := gv_eq k S n
  have hit : ∀ v, hitV k S n n v = true ↔ ∃ a, 1 ≤ a ∧ a ≤ n ∧ okA k S n a = true ∧ gv k S (n - a) = v := by
    intro v
    unfold hitV
    rw [anyB_iff]
    constructor
    · rintro ⟨a, h1, h2, h3⟩
      rw [Bool.and_eq_true] at h3
      exact ⟨a, h1, h2, h3.1, of_decide_eq_true h3.2⟩
    · rintro ⟨a, h1, h2, h3, h4⟩
      exact ⟨a, h1, h2, by rw [Bool.and_eq_true]; exact ⟨h3, decide_eq_true h4⟩⟩
  refine ⟨by omega, fun a h1 h2 h3 h4 => ?_, fun v hv => ?_⟩
  · have h5 := firstN_not (hitV k S n n) 301 0 (by omega)
    rw [← he, (hit _).mpr ⟨a, h1, h2, h3, h4⟩] at h5
    cases h5
  · exact (hit v).mp (firstN_all (hitV k S n n) 301 0 v (Nat.zero_le _) (by omega))
theorem cf_al (A : AS) (h n a : Nat) (hh : h < A.st.hs.length) : A.cf.al h n a = okA (A.ru.1 (A.st.rl h)) (A.ru.2.1 (A.st.rl h)) n a := by
  have e : A.st.rs.getD h 0 = A.st.rl h := by
    show (A.st.hs.map Prod.fst).getD h 0 = (A.st.hs.getD h (0, 0)).1
    rw [List.getD_eq_getElem?_getD, List.getD_eq_getElem?_getD, List.getElem?_map]
    cases A.st.hs[h]? <;> rfl
  show okA (A.ru.1 (A.st.rs.getD h 0)) (A.ru.2.1 (A.st.rs.getD h 0)) n a = _
  rw [e]
theorem cf_m (A : AS) : A.cf.m = A.st.hs.length := List.length_map ..
theorem mex_A (A : AS) : mexG A.cf (gvA A) := by
  intro h hh n hn
  rw [cf_m] at hh
  obtain ⟨h1, h2, h3⟩ := gv_mex (k := A.ru.1 (A.st.rl h)) (S := A.ru.2.1 (A.st.rl h)) hn
  refine ⟨h1, fun a a1 a2 a3 => h2 a a1 a2 (by rw [← cf_al A h n a hh]; exact a3), fun v hv => ?_⟩
  obtain ⟨a, a1, a2, a3, a4⟩ := h3 v hv
  exact ⟨a, a1, a2, by rw [cf_al A h n a hh]; exact a3, a4⟩
theorem nI_xor : ∀ a, a < 16 → ∀ b, b < 16 → nI a ^^^ nI b = nI (a ^^^ b) := by decide +kernel
theorem ns_sum {A : AS} (hok : stOK A.nr A.st) (hm : A.st.hs.length ≤ 3) : nsS A A.st.hs.length = nI (smG A.cf (gvA A) A.st.pos) := by
  have hG := mex_A A
  have e : ∀ h, h < A.st.hs.length → vS A.ru (A.st.rl h) (A.st.sz h) = nI (hpG A.cf (gvA A) A.st.pos h) := by
    intro h hh
    unfold hpG
    rw [if_pos (by rw [cf_m]; exact hh), hok.dig (by omega)]
    rfl
  have z : ∀ h, A.st.hs.length ≤ h → hpG A.cf (gvA A) A.st.pos h = 0 := fun h hh => if_neg (by rw [cf_m]; omega)
  have l : ∀ h, hpG A.cf (gvA A) A.st.pos h < 16 := fun h => hpG_lt hG _ h
  have x0 : ∀ a, a < 16 → (0 : Int32) ^^^ nI a = nI a := by decide +kernel
  unfold smG
  rcases (show A.st.hs.length = 0 ∨ A.st.hs.length = 1 ∨ A.st.hs.length = 2 ∨ A.st.hs.length = 3 by omega) with q | q | q | q
  · rw [q, z 0 (by omega), z 1 (by omega), z 2 (by omega)]; rfl
  · rw [q, nsS, nsS, e 0 (by omega), z 1 (by omega), z 2 (by omega), x0 _ (l 0), Nat.xor_zero, Nat.xor_zero]
  · rw [q, nsS, nsS, nsS, e 0 (by omega), e 1 (by omega), z 2 (by omega), x0 _ (l 0), nI_xor _ (l 0) _ (l 1), Nat.xor_zero]
  · rw [q, nsS, nsS, nsS, nsS, e 0 (by omega), e 1 (by omega), e 2 (by omega), x0 _ (l 0), nI_xor _ (l 0) _ (l 1), nI_xor _ (xor_lt16 _ (l 0) _ (l 1)) _ (l 2)]
/-- without shared amounts and passes the value is that of the heaps together -/
theorem val_nim {A : AS} (hok : stOK A.nr A.st) (hm : A.st.hs.length ≤ 3) (hs : A.ru.2.2 = 0) (hp : A.st.ps = 0) : nI (val A.cf A.st.pos).2.2 = nsS A A.st.hs.length := by
  have hps : A.st.pos < 65536 := by
    have h16 : ∀ x ∈ A.st.zs, x < 16 := by
      intro x hx
      obtain ⟨y, hy, rfl⟩ := List.mem_map.mp hx
      have := (hok.2.1 y hy).2
      omega
    have h4 : A.st.zs.length ≤ 4 := by
      show (A.st.hs.map Prod.snd).length ≤ 4
      rw [List.length_map]; omega
    have := pk4_16 h16 h4
    show pk4 A.st.zs + 2 ^ 16 * A.st.ps < 65536
    rw [hp]; omega
  rw [ns_sum hok hm, val_sum (by rw [cf_m]; exact hm) (mex_A A) (fun a => by show A.ru.2.2.testBit a = false; rw [hs]; exact Nat.zero_testBit a) _ hps]
